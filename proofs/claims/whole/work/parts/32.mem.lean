/-- wide, skip, how many steps, their amounts, their ends -/
abbrev CT : Type := Int × Int × Int × (Int → Int) × (Int → Int)
def cW (W : MM) (h : Nat) : CT := (W h 0, W h 1, W h 2, W (h + 1), W (h + 2))
def hbM (V : MM) (h : Nat) (c : CT) : MM := upR (upR (upR V (h + 1) c.2.2.2.1) (h + 2) c.2.2.2.2) h (ur (ur (ur (V h) 0 c.1) 1 c.2.1) 2 c.2.2.1)
def stp (c : CT) (cc a : Int) : CT := (c.1, c.2.1, c.2.2.1 + 1, ur c.2.2.2.1 c.2.2.1 a, ur c.2.2.2.2 c.2.2.1 cc)
theorem ur_cm (f : Int → Int) {i j : Int} (x y : Int) (h : i ≠ j) : ur (ur f i x) j y = ur (ur f j y) i x := by
  funext k
  unfold ur
  by_cases h1 : k = j
  · rw [if_pos h1, if_neg (by omega), if_pos h1]
  · rw [if_neg h1]
    by_cases h2 : k = i
    · rw [if_pos h2, if_pos h2]
    · rw [if_neg h2, if_neg h2, if_neg h1]
theorem hb_h (V : MM) (h : Nat) (c : CT) : hbM V h c h = ur (ur (ur (V h) 0 c.1) 1 c.2.1) 2 c.2.2.1 := upR_s ..
theorem hb_1 (V : MM) (h : Nat) (c : CT) : hbM V h c (h + 1) = c.2.2.2.1 := by
  unfold hbM
  rw [upR_n _ (by omega), upR_n _ (by omega), upR_s]
theorem hb_2 (V : MM) (h : Nat) (c : CT) : hbM V h c (h + 2) = c.2.2.2.2 := by
  unfold hbM
  rw [upR_n _ (by omega), upR_s]
theorem hb_n (V : MM) (h : Nat) (c : CT) {k : Nat} (h1 : k ≠ h) (h2 : k ≠ h + 1) (h3 : k ≠ h + 2) : hbM V h c k = V k := by
  unfold hbM
  rw [upR_n _ h1, upR_n _ h3, upR_n _ h2]
theorem hb_c (V : MM) (h : Nat) (c : CT) : cW (hbM V h c) h = c := by
  unfold cW
  rw [hb_1, hb_2, hb_h, ur_s, ur_n _ (show (1 : Int) ≠ 2 by omega), ur_s, ur_n _ (show (0 : Int) ≠ 2 by omega), ur_n _ (show (0 : Int) ≠ 1 by omega), ur_s]
theorem hb_hb (V : MM) (h : Nat) (c d : CT) : hbM (hbM V h c) h d = hbM V h d := by
  show upR (upR (upR (hbM V h c) (h + 1) d.2.2.2.1) (h + 2) d.2.2.2.2) h (ur (ur (ur (hbM V h c h) 0 d.1) 1 d.2.1) 2 d.2.2.1) = _
  rw [hb_h]
  funext k
  unfold hbM
  by_cases h1 : k = h
  · subst h1
    rw [upR_s, upR_s]
    funext i
    unfold ur
    repeat' split
    all_goals first | rfl | (exfalso; omega)
  · rw [upR_n _ h1, upR_n _ h1]
    by_cases h2 : k = h + 2
    · subst h2
      rw [upR_s, upR_s]
    · rw [upR_n _ h2, upR_n _ h2]
      by_cases h3 : k = h + 1
      · subst h3
        rw [upR_s, upR_s]
      · rw [upR_n _ h3, upR_n _ h3, upR_n _ h1, upR_n _ h2, upR_n _ h3]
theorem hb_id (W : MM) (h : Nat) : hbM W h (cW W h) = W := by
  unfold hbM cW
  show upR (upR (upR W (h + 1) (W (h + 1))) (h + 2) (W (h + 2))) h (ur (ur (ur (W h) 0 (W h 0)) 1 (W h 1)) 2 (W h 2)) = W
  rw [upR_id, upR_id, ur_id, ur_id, ur_id, upR_id]
/-- memories that agree where a reading writes -/
theorem rh_ext {V : MM} {h : Nat} {W : MM} {c : CT} {s : ST} (hh : isH h) (h0 : W h = ur (ur (ur (ur (V h) 0 c.1) 1 c.2.1) 2 c.2.2.1) 3 s.2.1) (h1 : W (h + 1) = c.2.2.2.1) (h2 : W (h + 2) = c.2.2.2.2) (h3 : W (h + 3) = s.2.2) (h4 : W 4 = ur (V 4) 2 s.1) (h5 : ∀ k : Nat, k ≠ h → k ≠ h + 1 → k ≠ h + 2 → k ≠ h + 3 → k ≠ 4 → W k = V k) : W = rdM (hbM V h c) h s := by
  have hb := isH_b hh
  funext k
  by_cases a0 : k = h
  · subst a0
    rw [h0, rd_h hh, hb_h]
  by_cases a3 : k = h + 3
  · subst a3
    rw [h3, rd_c hh]
  by_cases a4 : k = 4
  · subst a4
    rw [h4, rd_4 hh, hb_n _ _ _ (by omega) (by omega) (by omega)]
  rw [rd_n hh s a4 a0 a3]
  by_cases a1 : k = h + 1
  · subst a1
    rw [h1, hb_1]
  by_cases a2 : k = h + 2
  · subst a2
    rw [h2, hb_2]
  rw [h5 k a0 a1 a2 a3 a4, hb_n _ _ _ a0 a1 a2]
theorem ur_03 (f : Int → Int) (n x : Int) : ur (ur f 3 x) 0 n = ur (ur (ur (ur f 0 n) 1 (f 1)) 2 (f 2)) 3 x := by
  funext i
  unfold ur
  by_cases a : i = 0
  · subst a; rfl
  by_cases b : i = 1
  · subst b; rfl
  by_cases c : i = 2
  · subst c; rfl
  by_cases d : i = 3
  · subst d; rfl
  simp only [a, b, c, d, if_false]
theorem ur_13 (f : Int → Int) (n x : Int) : ur (ur f 3 x) 1 n = ur (ur (ur (ur f 0 (f 0)) 1 n) 2 (f 2)) 3 x := by
  funext i
  unfold ur
  by_cases a : i = 0
  · subst a; rfl
  by_cases b : i = 1
  · subst b; rfl
  by_cases c : i = 2
  · subst c; rfl
  by_cases d : i = 3
  · subst d; rfl
  simp only [a, b, c, d, if_false]
theorem ur_23 (f : Int → Int) (n x : Int) : ur (ur f 3 x) 2 n = ur (ur (ur (ur f 0 (f 0)) 1 (f 1)) 2 n) 3 x := by
  funext i
  unfold ur
  by_cases a : i = 0
  · subst a; rfl
  by_cases b : i = 1
  · subst b; rfl
  by_cases c : i = 2
  · subst c; rfl
  by_cases d : i = 3
  · subst d; rfl
  simp only [a, b, c, d, if_false]
theorem rd_w {W : MM} {h : Nat} (hh : isH h) (s : ST) (n : Int) : upR (rdM W h s) h (ur (rdM W h s h) 0 n) = rdM (hbM W h (n, (cW W h).2)) h s := by
  have hb := isH_b hh
  refine rh_ext hh ?_ ?_ ?_ ?_ ?_ (fun k k0 k1 k2 k3 k4 => ?_)
  · rw [upR_s, rd_h hh]; exact ur_03 _ _ _
  · rw [upR_n _ (by omega), rd_n hh s (by omega) (by omega) (by omega)]; rfl
  · rw [upR_n _ (by omega), rd_n hh s (by omega) (by omega) (by omega)]; rfl
  · rw [upR_n _ (by omega), rd_c hh]
  · rw [upR_n _ (by omega), rd_4 hh]
  · rw [upR_n _ k0, rd_n hh s k4 k0 k3]
theorem rd_k {W : MM} {h : Nat} (hh : isH h) (s : ST) (n : Int) : upR (rdM W h s) h (ur (rdM W h s h) 1 n) = rdM (hbM W h ((cW W h).1, n, (cW W h).2.2)) h s := by
  have hb := isH_b hh
  refine rh_ext hh ?_ ?_ ?_ ?_ ?_ (fun k k0 k1 k2 k3 k4 => ?_)
  · rw [upR_s, rd_h hh]; exact ur_13 _ _ _
  · rw [upR_n _ (by omega), rd_n hh s (by omega) (by omega) (by omega)]; rfl
  · rw [upR_n _ (by omega), rd_n hh s (by omega) (by omega) (by omega)]; rfl
  · rw [upR_n _ (by omega), rd_c hh]
  · rw [upR_n _ (by omega), rd_4 hh]
  · rw [upR_n _ k0, rd_n hh s k4 k0 k3]
theorem rd_as {W : MM} {h : Nat} (hh : isH h) (s : ST) (n : Int) : asM (rdM W h s) h n = rdM (hbM W h (stp (cW W h) s.2.1 n)) h s := by
  have hb := isH_b hh
  have e2 : rdM W h s h 2 = W h 2 := by rw [rd_h hh, ur_n _ (by omega)]
  refine rh_ext hh ?_ ?_ ?_ ?_ ?_ (fun k k0 k1 k2 k3 k4 => ?_) <;> unfold asM
  · rw [upR_s, e2, rd_h hh]; exact ur_23 _ _ _
  · rw [upR_n _ (by omega), upR_n _ (by omega), upR_s, e2, rd_n hh s (by omega) (by omega) (by omega)]; rfl
  · rw [upR_n _ (by omega), upR_s, e2, rd_h3 hh, rd_n hh s (by omega) (by omega) (by omega)]; rfl
  · rw [upR_n _ (by omega), upR_n _ (by omega), upR_n _ (by omega), rd_c hh]
  · rw [upR_n _ (by omega), upR_n _ (by omega), upR_n _ (by omega), rd_4 hh]
  · rw [upR_n _ k0, upR_n _ k2, upR_n _ k1, rd_n hh s k4 k0 k3]
