/-- the pile p bears the stack st -/
def PR (p : Int → Int) : List Bool → Prop
  | [] => True
  | v :: r => p (r.length : Int) = b2i v ∧ PR p r
theorem PR_up {p : Int → Int} {x : Int} : ∀ {r : List Bool} {j : Int}, PR p r → (r.length : Int) ≤ j → PR (ur p j x) r := by
  intro r
  induction r with
  | nil => intro j h1 h2; trivial
  | cons v r ih =>
    intro j h1 h2
    have e : ((v :: r).length : Int) = (r.length : Int) + 1 := by simp
    refine ⟨?_, ih h1.2 (by omega)⟩
    rw [ur_n _ (by omega)]
    exact h1.1
theorem b2i_t : b2i true = 1 := rfl
theorem b2i_f : b2i false = 0 := rfl
theorem ev_s {sg : Int → Int} {s : FS} {d : Int} {n : Nat} {i : Int} {st r : List Bool} (h : evM sg s d (n + 1) i st = some r) : ∃ st', st1M (sg i) s d st = some st' ∧ evM sg s d n (i + 1) st' = some r := by
  unfold evM at h
  cases h2 : st1M (sg i) s d st with
  | none => rw [h2] at h; cases h
  | some st' => rw [h2] at h; exact ⟨st', rfl, h⟩
theorem st1_n {c : Int} {s : FS} {d : Int} {st r : List Bool} (hc : c = -33) (h : st1M c s d st = some r) : ∃ a q, st = a :: q ∧ r = (!a) :: q := by
  unfold st1M at h
  rw [if_pos hc] at h
  match st, h with
  | a :: q, h => exact ⟨a, q, rfl, (Option.some.inj h).symm⟩
theorem st1_b {c : Int} {s : FS} {d : Int} {st r : List Bool} (hc : c = -38 ∨ c = -124) (h : st1M c s d st = some r) : ∃ b a q, st = b :: a :: q ∧ r = (if c = -38 then a && b else a || b) :: q := by
  unfold st1M at h
  rw [if_neg (by omega), if_pos (by omega)] at h
  match st, h with
  | b :: a :: q, h => exact ⟨b, a, q, rfl, (Option.some.inj h).symm⟩
theorem st1_p {c : Int} {s : FS} {d : Int} {st r : List Bool} (hc : 0 ≤ c) (h : st1M c s d st = some r) : st.length < 60 ∧ r = tstM c s d :: st := by
  unfold st1M at h
  rw [if_neg (by omega), if_neg (by omega)] at h
  by_cases q : st.length < 60
  · rw [if_pos q] at h; exact ⟨q, (Option.some.inj h).symm⟩
  · rw [if_neg q] at h; cases h

theorem holds_loop {g : GC} {X : CX} {Q : Option AV → MM → Prop} {V : MM} {hs : HS} {s : FS} {c d : Int} {v : Bool} (M0 : FM V hs s) (hc : 0 ≤ c ∧ c < 60) (hd : 0 ≤ d ∧ d < s.1) (hft : 0 ≤ V 93 c ∧ V 94 c ≤ 600) (hsg : ∀ k, V 93 c ≤ k ∧ k < V 94 c → V 95 k = -33 ∨ V 95 k = -38 ∨ V 95 k = -124 ∨ (0 ≤ V 95 k ∧ V 95 k ≤ 5999)) (hz : Fi g X (some .boolean) Q) (hD : Dp X 2) (hQ : ∀ V', Om V V' → Q (some (vi (b2i v))) V') : ∀ (m : Nat) (k n : Int) (st : List Bool) (p : Int → Int), evM (V 95) s d m k st = some [v] → k + m = V 94 c → V 93 c ≤ k → n = (st.length : Int) → PR p st → st.length ≤ 60 → SW g X RX7 cX7_holds 10 [some (vr 83), some (vi c), some (vi d), some (vi n), some (vi k), none, none, none] [] (upR V 98 p) := by
  intro m
  induction m with
  | zero =>
    intro k n st p hx h0 h1 hn hp hl
    have hO : Om V (upR V 98 p) := fun k a b c => upR_n _ a
    unfold evM at hx
    have e := Option.some.inj hx
    subst e
    have hp0 : p 0 = b2i v := hp.1
    have hb := b2i_c v
    refine S_il4 qX7_holds_10 ?_
    refine S_al0 qX7_holds_12 ?_
    refine S_getR qX7_holds_13 fX7_62 e83_17 ?_
    refine S_il1 qX7_holds_16 ?_
    refine S_iald qX7_holds_17 a94 (K := ?_)
    rw [hO 94 (by decide) (by decide) (by decide)]
    refine S_icmp_ge (d := qX7_holds_18) (kt := fun c18 => ?_) (kf := fun c18 => ?_)
    rotate_left
    · omega
    refine S_al0 qX7_holds_243 ?_
    refine S_getR qX7_holds_244 fX7_83 e83_24 ?_
    refine S_iconst qX7_holds_247 ?_
    refine S_bald qX7_holds_248 a98 (K := ?_)
    rw [upR_s, hp0]
    refine S_zret hz qX7_holds_249 (by omega) ?_
    exact hQ _ hO
  | succ m ih =>
    intro k n st p hx h0 h1 hn hp hl
    have hO : Om V (upR V 98 p) := fun k a b c => upR_n _ a
    obtain ⟨st', hs1, hx'⟩ := ev_s hx
    rcases hsg k (by omega) with q | q | q | q
    · obtain ⟨a, r, rfl, rfl⟩ := st1_n q hs1
      have hlen : ((a :: r).length : Int) = (r.length : Int) + 1 := by simp
      have hpa : p (n - 1) = b2i a := by rw [show n - 1 = (r.length : Int) by omega]; exact hp.1
      have hb := b2i_c a
      refine S_il4 qX7_holds_10 ?_
      refine S_al0 qX7_holds_12 ?_
      refine S_getR qX7_holds_13 fX7_62 e83_17 ?_
      refine S_il1 qX7_holds_16 ?_
      refine S_iald qX7_holds_17 a94 (K := ?_)
      rw [hO 94 (by decide) (by decide) (by decide)]
      refine S_icmp_ge (d := qX7_holds_18) (kt := fun c18 => ?_) (kf := fun c18 => ?_)
      · omega
      refine S_al0 qX7_holds_21 ?_
      refine S_getR qX7_holds_22 fX7_65 e83_18 ?_
      refine S_il4 qX7_holds_25 ?_
      refine S_iald qX7_holds_27 a95 (K := ?_)
      rw [hO 95 (by decide) (by decide) (by decide)]
      refine S_is5 qX7_holds_28 (K := ?_)
      refine S_il5 qX7_holds_30 ?_
      refine S_bipush (d := qX7_holds_32) (k := ?_)
      refine S_icmp_ne (d := qX7_holds_34) (kt := fun c34 => ?_) (kf := fun c34 => ?_)
      · omega
      refine S_al0 qX7_holds_37 ?_
      refine S_getR qX7_holds_38 fX7_83 e83_24 ?_
      refine S_il3 qX7_holds_41 ?_
      refine S_iconst qX7_holds_42 ?_
      refine S_isub qX7_holds_43 ?_
      refine S_al0 qX7_holds_44 ?_
      refine S_getR qX7_holds_45 fX7_83 e83_24 ?_
      refine S_il3 qX7_holds_48 ?_
      refine S_iconst qX7_holds_49 ?_
      refine S_isub qX7_holds_50 ?_
      refine S_bald qX7_holds_51 a98 (K := ?_)
      rw [upR_s]
      refine S_if_ne (d := qX7_holds_52) (kt := fun c52 => ?_) (kf := fun c52 => ?_)
      · refine S_iconst qX7_holds_59 ?_
        refine S_bast qX7_holds_60 a98 (K := ?_)
        refine S_goto qX7_holds_61 ?_
        refine S_inc4 qX7_holds_237 (K := ?_)
        refine S_goto qX7_holds_240 ?_
        refine SW.forget 5 (SW.forget 6 (SW.forget 7 ?_))
        rw [upR_s, upR_u]
        refine ih (k + 1) _ _ _ hx' (by omega) (by omega) (by show n = (((!a) :: r).length : Int); rw [hlen] at hn; simp; omega) ?_ (by simpa using hl)
        refine ⟨?_, PR_up hp.2 (by omega)⟩
        rw [show n - 1 = (r.length : Int) by omega, ur_s]
        cases a <;> first | rfl | (exfalso; simp [b2i] at hpa; omega)
      · refine S_iconst qX7_holds_55 ?_
        refine S_goto qX7_holds_56 ?_
        refine S_bast qX7_holds_60 a98 (K := ?_)
        refine S_goto qX7_holds_61 ?_
        refine S_inc4 qX7_holds_237 (K := ?_)
        refine S_goto qX7_holds_240 ?_
        refine SW.forget 5 (SW.forget 6 (SW.forget 7 ?_))
        rw [upR_s, upR_u]
        refine ih (k + 1) _ _ _ hx' (by omega) (by omega) (by show n = (((!a) :: r).length : Int); rw [hlen] at hn; simp; omega) ?_ (by simpa using hl)
        refine ⟨?_, PR_up hp.2 (by omega)⟩
        rw [show n - 1 = (r.length : Int) by omega, ur_s]
        cases a <;> first | rfl | (exfalso; simp [b2i] at hpa; omega)
    · obtain ⟨b, a, r, rfl, rfl⟩ := st1_b (Or.inl q) hs1
      have hlen : ((b :: a :: r).length : Int) = (r.length : Int) + 1 + 1 := by simp
      have hp1 : p ((a :: r).length : Int) = b2i b := hp.1
      have hp2 : p (r.length : Int) = b2i a := hp.2.1
      have hl1 : ((a :: r).length : Int) = (r.length : Int) + 1 := by simp
      rw [show ((a :: r).length : Int) = n + -1 by omega] at hp1
      rw [show (r.length : Int) = n + -1 - 1 by omega] at hp2
      rw [if_pos q] at hx'
      have hb := b2i_c a
      have hb2 := b2i_c b
      refine S_il4 qX7_holds_10 ?_
      refine S_al0 qX7_holds_12 ?_
      refine S_getR qX7_holds_13 fX7_62 e83_17 ?_
      refine S_il1 qX7_holds_16 ?_
      refine S_iald qX7_holds_17 a94 (K := ?_)
      rw [hO 94 (by decide) (by decide) (by decide)]
      refine S_icmp_ge (d := qX7_holds_18) (kt := fun c18 => ?_) (kf := fun c18 => ?_)
      · omega
      refine S_al0 qX7_holds_21 ?_
      refine S_getR qX7_holds_22 fX7_65 e83_18 ?_
      refine S_il4 qX7_holds_25 ?_
      refine S_iald qX7_holds_27 a95 (K := ?_)
      rw [hO 95 (by decide) (by decide) (by decide)]
      refine S_is5 qX7_holds_28 (K := ?_)
      refine S_il5 qX7_holds_30 ?_
      refine S_bipush (d := qX7_holds_32) (k := ?_)
      refine S_icmp_ne (d := qX7_holds_34) (kt := fun c34 => ?_) (kf := fun c34 => ?_)
      rotate_left
      · omega
      refine S_il5 qX7_holds_64 ?_
      refine S_if_ge (d := qX7_holds_66) (kt := fun c66 => ?_) (kf := fun c66 => ?_)
      · omega
      refine S_inc3 qX7_holds_69 (K := ?_)
      refine S_al0 qX7_holds_72 ?_
      refine S_getR qX7_holds_73 fX7_83 e83_24 ?_
      refine S_il3 qX7_holds_76 ?_
      refine S_iconst qX7_holds_77 ?_
      refine S_isub qX7_holds_78 ?_
      refine S_il5 qX7_holds_79 ?_
      refine S_bipush (d := qX7_holds_81) (k := ?_)
      refine S_icmp_ne (d := qX7_holds_83) (kt := fun c83 => ?_) (kf := fun c83 => ?_)
      · refine S_al0 qX7_holds_114 ?_
        refine S_getR qX7_holds_115 fX7_83 e83_24 ?_
        refine S_il3 qX7_holds_118 ?_
        refine S_iconst qX7_holds_119 ?_
        refine S_isub qX7_holds_120 ?_
        refine S_bald qX7_holds_121 a98 (K := ?_)
        rw [upR_s]
        refine S_if_ne (d := qX7_holds_122) (kt := fun c122 => ?_) (kf := fun c122 => ?_)
        · refine S_iconst qX7_holds_134 ?_
          refine S_goto qX7_holds_135 ?_
          refine S_bast qX7_holds_139 a98 (K := ?_)
          refine S_goto qX7_holds_140 ?_
          refine S_inc4 qX7_holds_237 (K := ?_)
          refine S_goto qX7_holds_240 ?_
          refine SW.forget 5 (SW.forget 6 (SW.forget 7 ?_))
          rw [upR_s, upR_u]
          refine ih (k + 1) _ _ _ hx' (by omega) (by omega) (by show n + -1 = (((a && b) :: r).length : Int); simp; omega) ?_ (by simp at hl ⊢; omega)
          refine ⟨?_, PR_up hp.2.2 (by omega)⟩
          rw [show n + -1 - 1 = (r.length : Int) by omega, ur_s]
          cases a <;> cases b <;> first | rfl | (exfalso; simp [b2i] at hp1 hp2; omega)
        · refine S_al0 qX7_holds_125 ?_
          refine S_getR qX7_holds_126 fX7_83 e83_24 ?_
          refine S_il3 qX7_holds_129 ?_
          refine S_bald qX7_holds_130 a98 (K := ?_)
          rw [upR_s]
          refine S_if_eq (d := qX7_holds_131) (kt := fun c131 => ?_) (kf := fun c131 => ?_)
          · refine S_iconst qX7_holds_138 ?_
            refine S_bast qX7_holds_139 a98 (K := ?_)
            refine S_goto qX7_holds_140 ?_
            refine S_inc4 qX7_holds_237 (K := ?_)
            refine S_goto qX7_holds_240 ?_
            refine SW.forget 5 (SW.forget 6 (SW.forget 7 ?_))
            rw [upR_s, upR_u]
            refine ih (k + 1) _ _ _ hx' (by omega) (by omega) (by show n + -1 = (((a && b) :: r).length : Int); simp; omega) ?_ (by simp at hl ⊢; omega)
            refine ⟨?_, PR_up hp.2.2 (by omega)⟩
            rw [show n + -1 - 1 = (r.length : Int) by omega, ur_s]
            cases a <;> cases b <;> first | rfl | (exfalso; simp [b2i] at hp1 hp2; omega)
          · refine S_iconst qX7_holds_134 ?_
            refine S_goto qX7_holds_135 ?_
            refine S_bast qX7_holds_139 a98 (K := ?_)
            refine S_goto qX7_holds_140 ?_
            refine S_inc4 qX7_holds_237 (K := ?_)
            refine S_goto qX7_holds_240 ?_
            refine SW.forget 5 (SW.forget 6 (SW.forget 7 ?_))
            rw [upR_s, upR_u]
            refine ih (k + 1) _ _ _ hx' (by omega) (by omega) (by show n + -1 = (((a && b) :: r).length : Int); simp; omega) ?_ (by simp at hl ⊢; omega)
            refine ⟨?_, PR_up hp.2.2 (by omega)⟩
            rw [show n + -1 - 1 = (r.length : Int) by omega, ur_s]
            cases a <;> cases b <;> first | rfl | (exfalso; simp [b2i] at hp1 hp2; omega)
      · refine S_al0 qX7_holds_86 ?_
        refine S_getR qX7_holds_87 fX7_83 e83_24 ?_
        refine S_il3 qX7_holds_90 ?_
        refine S_iconst qX7_holds_91 ?_
        refine S_isub qX7_holds_92 ?_
        refine S_bald qX7_holds_93 a98 (K := ?_)
        rw [upR_s]
        refine S_if_eq (d := qX7_holds_94) (kt := fun c94 => ?_) (kf := fun c94 => ?_)
        · refine S_iconst qX7_holds_110 ?_
          refine S_goto qX7_holds_111 ?_
          refine S_bast qX7_holds_139 a98 (K := ?_)
          refine S_goto qX7_holds_140 ?_
          refine S_inc4 qX7_holds_237 (K := ?_)
          refine S_goto qX7_holds_240 ?_
          refine SW.forget 5 (SW.forget 6 (SW.forget 7 ?_))
          rw [upR_s, upR_u]
          refine ih (k + 1) _ _ _ hx' (by omega) (by omega) (by show n + -1 = (((a && b) :: r).length : Int); simp; omega) ?_ (by simp at hl ⊢; omega)
          refine ⟨?_, PR_up hp.2.2 (by omega)⟩
          rw [show n + -1 - 1 = (r.length : Int) by omega, ur_s]
          cases a <;> cases b <;> first | rfl | (exfalso; simp [b2i] at hp1 hp2; omega)
        · refine S_al0 qX7_holds_97 ?_
          refine S_getR qX7_holds_98 fX7_83 e83_24 ?_
          refine S_il3 qX7_holds_101 ?_
          refine S_bald qX7_holds_102 a98 (K := ?_)
          rw [upR_s]
          refine S_if_eq (d := qX7_holds_103) (kt := fun c103 => ?_) (kf := fun c103 => ?_)
          · refine S_iconst qX7_holds_110 ?_
            refine S_goto qX7_holds_111 ?_
            refine S_bast qX7_holds_139 a98 (K := ?_)
            refine S_goto qX7_holds_140 ?_
            refine S_inc4 qX7_holds_237 (K := ?_)
            refine S_goto qX7_holds_240 ?_
            refine SW.forget 5 (SW.forget 6 (SW.forget 7 ?_))
            rw [upR_s, upR_u]
            refine ih (k + 1) _ _ _ hx' (by omega) (by omega) (by show n + -1 = (((a && b) :: r).length : Int); simp; omega) ?_ (by simp at hl ⊢; omega)
            refine ⟨?_, PR_up hp.2.2 (by omega)⟩
            rw [show n + -1 - 1 = (r.length : Int) by omega, ur_s]
            cases a <;> cases b <;> first | rfl | (exfalso; simp [b2i] at hp1 hp2; omega)
          · refine S_iconst qX7_holds_106 ?_
            refine S_goto qX7_holds_107 ?_
            refine S_bast qX7_holds_139 a98 (K := ?_)
            refine S_goto qX7_holds_140 ?_
            refine S_inc4 qX7_holds_237 (K := ?_)
            refine S_goto qX7_holds_240 ?_
            refine SW.forget 5 (SW.forget 6 (SW.forget 7 ?_))
            rw [upR_s, upR_u]
            refine ih (k + 1) _ _ _ hx' (by omega) (by omega) (by show n + -1 = (((a && b) :: r).length : Int); simp; omega) ?_ (by simp at hl ⊢; omega)
            refine ⟨?_, PR_up hp.2.2 (by omega)⟩
            rw [show n + -1 - 1 = (r.length : Int) by omega, ur_s]
            cases a <;> cases b <;> first | rfl | (exfalso; simp [b2i] at hp1 hp2; omega)
    · obtain ⟨b, a, r, rfl, rfl⟩ := st1_b (Or.inr q) hs1
      have hlen : ((b :: a :: r).length : Int) = (r.length : Int) + 1 + 1 := by simp
      have hp1 : p ((a :: r).length : Int) = b2i b := hp.1
      have hp2 : p (r.length : Int) = b2i a := hp.2.1
      have hl1 : ((a :: r).length : Int) = (r.length : Int) + 1 := by simp
      rw [show ((a :: r).length : Int) = n + -1 by omega] at hp1
      rw [show (r.length : Int) = n + -1 - 1 by omega] at hp2
      rw [if_neg (by omega)] at hx'
      have hb := b2i_c a
      have hb2 := b2i_c b
      refine S_il4 qX7_holds_10 ?_
      refine S_al0 qX7_holds_12 ?_
      refine S_getR qX7_holds_13 fX7_62 e83_17 ?_
      refine S_il1 qX7_holds_16 ?_
      refine S_iald qX7_holds_17 a94 (K := ?_)
      rw [hO 94 (by decide) (by decide) (by decide)]
      refine S_icmp_ge (d := qX7_holds_18) (kt := fun c18 => ?_) (kf := fun c18 => ?_)
      · omega
      refine S_al0 qX7_holds_21 ?_
      refine S_getR qX7_holds_22 fX7_65 e83_18 ?_
      refine S_il4 qX7_holds_25 ?_
      refine S_iald qX7_holds_27 a95 (K := ?_)
      rw [hO 95 (by decide) (by decide) (by decide)]
      refine S_is5 qX7_holds_28 (K := ?_)
      refine S_il5 qX7_holds_30 ?_
      refine S_bipush (d := qX7_holds_32) (k := ?_)
      refine S_icmp_ne (d := qX7_holds_34) (kt := fun c34 => ?_) (kf := fun c34 => ?_)
      rotate_left
      · omega
      refine S_il5 qX7_holds_64 ?_
      refine S_if_ge (d := qX7_holds_66) (kt := fun c66 => ?_) (kf := fun c66 => ?_)
      · omega
      refine S_inc3 qX7_holds_69 (K := ?_)
      refine S_al0 qX7_holds_72 ?_
      refine S_getR qX7_holds_73 fX7_83 e83_24 ?_
      refine S_il3 qX7_holds_76 ?_
      refine S_iconst qX7_holds_77 ?_
      refine S_isub qX7_holds_78 ?_
      refine S_il5 qX7_holds_79 ?_
      refine S_bipush (d := qX7_holds_81) (k := ?_)
      refine S_icmp_ne (d := qX7_holds_83) (kt := fun c83 => ?_) (kf := fun c83 => ?_)
      · refine S_al0 qX7_holds_114 ?_
        refine S_getR qX7_holds_115 fX7_83 e83_24 ?_
        refine S_il3 qX7_holds_118 ?_
        refine S_iconst qX7_holds_119 ?_
        refine S_isub qX7_holds_120 ?_
        refine S_bald qX7_holds_121 a98 (K := ?_)
        rw [upR_s]
        refine S_if_ne (d := qX7_holds_122) (kt := fun c122 => ?_) (kf := fun c122 => ?_)
        · refine S_iconst qX7_holds_134 ?_
          refine S_goto qX7_holds_135 ?_
          refine S_bast qX7_holds_139 a98 (K := ?_)
          refine S_goto qX7_holds_140 ?_
          refine S_inc4 qX7_holds_237 (K := ?_)
          refine S_goto qX7_holds_240 ?_
          refine SW.forget 5 (SW.forget 6 (SW.forget 7 ?_))
          rw [upR_s, upR_u]
          refine ih (k + 1) _ _ _ hx' (by omega) (by omega) (by show n + -1 = (((a || b) :: r).length : Int); simp; omega) ?_ (by simp at hl ⊢; omega)
          refine ⟨?_, PR_up hp.2.2 (by omega)⟩
          rw [show n + -1 - 1 = (r.length : Int) by omega, ur_s]
          cases a <;> cases b <;> first | rfl | (exfalso; simp [b2i] at hp1 hp2; omega)
        · refine S_al0 qX7_holds_125 ?_
          refine S_getR qX7_holds_126 fX7_83 e83_24 ?_
          refine S_il3 qX7_holds_129 ?_
          refine S_bald qX7_holds_130 a98 (K := ?_)
          rw [upR_s]
          refine S_if_eq (d := qX7_holds_131) (kt := fun c131 => ?_) (kf := fun c131 => ?_)
          · refine S_iconst qX7_holds_138 ?_
            refine S_bast qX7_holds_139 a98 (K := ?_)
            refine S_goto qX7_holds_140 ?_
            refine S_inc4 qX7_holds_237 (K := ?_)
            refine S_goto qX7_holds_240 ?_
            refine SW.forget 5 (SW.forget 6 (SW.forget 7 ?_))
            rw [upR_s, upR_u]
            refine ih (k + 1) _ _ _ hx' (by omega) (by omega) (by show n + -1 = (((a || b) :: r).length : Int); simp; omega) ?_ (by simp at hl ⊢; omega)
            refine ⟨?_, PR_up hp.2.2 (by omega)⟩
            rw [show n + -1 - 1 = (r.length : Int) by omega, ur_s]
            cases a <;> cases b <;> first | rfl | (exfalso; simp [b2i] at hp1 hp2; omega)
          · refine S_iconst qX7_holds_134 ?_
            refine S_goto qX7_holds_135 ?_
            refine S_bast qX7_holds_139 a98 (K := ?_)
            refine S_goto qX7_holds_140 ?_
            refine S_inc4 qX7_holds_237 (K := ?_)
            refine S_goto qX7_holds_240 ?_
            refine SW.forget 5 (SW.forget 6 (SW.forget 7 ?_))
            rw [upR_s, upR_u]
            refine ih (k + 1) _ _ _ hx' (by omega) (by omega) (by show n + -1 = (((a || b) :: r).length : Int); simp; omega) ?_ (by simp at hl ⊢; omega)
            refine ⟨?_, PR_up hp.2.2 (by omega)⟩
            rw [show n + -1 - 1 = (r.length : Int) by omega, ur_s]
            cases a <;> cases b <;> first | rfl | (exfalso; simp [b2i] at hp1 hp2; omega)
      · refine S_al0 qX7_holds_86 ?_
        refine S_getR qX7_holds_87 fX7_83 e83_24 ?_
        refine S_il3 qX7_holds_90 ?_
        refine S_iconst qX7_holds_91 ?_
        refine S_isub qX7_holds_92 ?_
        refine S_bald qX7_holds_93 a98 (K := ?_)
        rw [upR_s]
        refine S_if_eq (d := qX7_holds_94) (kt := fun c94 => ?_) (kf := fun c94 => ?_)
        · refine S_iconst qX7_holds_110 ?_
          refine S_goto qX7_holds_111 ?_
          refine S_bast qX7_holds_139 a98 (K := ?_)
          refine S_goto qX7_holds_140 ?_
          refine S_inc4 qX7_holds_237 (K := ?_)
          refine S_goto qX7_holds_240 ?_
          refine SW.forget 5 (SW.forget 6 (SW.forget 7 ?_))
          rw [upR_s, upR_u]
          refine ih (k + 1) _ _ _ hx' (by omega) (by omega) (by show n + -1 = (((a || b) :: r).length : Int); simp; omega) ?_ (by simp at hl ⊢; omega)
          refine ⟨?_, PR_up hp.2.2 (by omega)⟩
          rw [show n + -1 - 1 = (r.length : Int) by omega, ur_s]
          cases a <;> cases b <;> first | rfl | (exfalso; simp [b2i] at hp1 hp2; omega)
        · refine S_al0 qX7_holds_97 ?_
          refine S_getR qX7_holds_98 fX7_83 e83_24 ?_
          refine S_il3 qX7_holds_101 ?_
          refine S_bald qX7_holds_102 a98 (K := ?_)
          rw [upR_s]
          refine S_if_eq (d := qX7_holds_103) (kt := fun c103 => ?_) (kf := fun c103 => ?_)
          · refine S_iconst qX7_holds_110 ?_
            refine S_goto qX7_holds_111 ?_
            refine S_bast qX7_holds_139 a98 (K := ?_)
            refine S_goto qX7_holds_140 ?_
            refine S_inc4 qX7_holds_237 (K := ?_)
            refine S_goto qX7_holds_240 ?_
            refine SW.forget 5 (SW.forget 6 (SW.forget 7 ?_))
            rw [upR_s, upR_u]
            refine ih (k + 1) _ _ _ hx' (by omega) (by omega) (by show n + -1 = (((a || b) :: r).length : Int); simp; omega) ?_ (by simp at hl ⊢; omega)
            refine ⟨?_, PR_up hp.2.2 (by omega)⟩
            rw [show n + -1 - 1 = (r.length : Int) by omega, ur_s]
            cases a <;> cases b <;> first | rfl | (exfalso; simp [b2i] at hp1 hp2; omega)
          · refine S_iconst qX7_holds_106 ?_
            refine S_goto qX7_holds_107 ?_
            refine S_bast qX7_holds_139 a98 (K := ?_)
            refine S_goto qX7_holds_140 ?_
            refine S_inc4 qX7_holds_237 (K := ?_)
            refine S_goto qX7_holds_240 ?_
            refine SW.forget 5 (SW.forget 6 (SW.forget 7 ?_))
            rw [upR_s, upR_u]
            refine ih (k + 1) _ _ _ hx' (by omega) (by omega) (by show n + -1 = (((a || b) :: r).length : Int); simp; omega) ?_ (by simp at hl ⊢; omega)
            refine ⟨?_, PR_up hp.2.2 (by omega)⟩
            rw [show n + -1 - 1 = (r.length : Int) by omega, ur_s]
            cases a <;> cases b <;> first | rfl | (exfalso; simp [b2i] at hp1 hp2; omega)
    · obtain ⟨hl6, rfl⟩ := st1_p q.1 hs1
      have M := M0.om hO
      have hI := M.2.2.2
      have hw := M.hw
      have hn6 := hI.1
      have re := env_rg (V 95 k / 1000) hI (by omega) hd
      have ex : ∀ x : Int, x = b2i (tstM (V 95 k) s d) → PR (ur p n x) (tstM (V 95 k) s d :: st) := fun x hx5 => by
        refine ⟨?_, PR_up hp (by omega)⟩
        rw [← hn, ur_s, hx5]
      refine S_il4 qX7_holds_10 ?_
      refine S_al0 qX7_holds_12 ?_
      refine S_getR qX7_holds_13 fX7_62 e83_17 ?_
      refine S_il1 qX7_holds_16 ?_
      refine S_iald qX7_holds_17 a94 (K := ?_)
      rw [hO 94 (by decide) (by decide) (by decide)]
      refine S_icmp_ge (d := qX7_holds_18) (kt := fun c18 => ?_) (kf := fun c18 => ?_)
      · omega
      refine S_al0 qX7_holds_21 ?_
      refine S_getR qX7_holds_22 fX7_65 e83_18 ?_
      refine S_il4 qX7_holds_25 ?_
      refine S_iald qX7_holds_27 a95 (K := ?_)
      rw [hO 95 (by decide) (by decide) (by decide)]
      refine S_is5 qX7_holds_28 (K := ?_)
      refine S_il5 qX7_holds_30 ?_
      refine S_bipush (d := qX7_holds_32) (k := ?_)
      refine S_icmp_ne (d := qX7_holds_34) (kt := fun c34 => ?_) (kf := fun c34 => ?_)
      rotate_left
      · omega
      refine S_il5 qX7_holds_64 ?_
      refine S_if_ge (d := qX7_holds_66) (kt := fun c66 => ?_) (kf := fun c66 => ?_)
      rotate_left
      · omega
      refine S_al0 qX7_holds_143 ?_
      refine S_il5 qX7_holds_144 ?_
      refine S_sipush (d := qX7_holds_146) (k := ?_)
      refine S_idiv (d := qX7_holds_149) (k := ?_)
      refine S_il2 qX7_holds_150 ?_
      refine S_V2E hD qX7_holds_151 lX7_278 vX7_factOf r83 (m_fact M (by omega) hd) (K := ?_)
      refine S_is6 qX7_holds_154 (K := ?_)
      refine S_il5 qX7_holds_156 ?_
      refine S_bipush (d := qX7_holds_158) (k := ?_)
      refine S_idiv (d := qX7_holds_160) (k := ?_)
      refine S_bipush (d := qX7_holds_161) (k := ?_)
      refine S_irem (d := qX7_holds_163) (k := ?_)
      refine S_is7 qX7_holds_164 (K := ?_)
      refine S_al0 qX7_holds_166 ?_
      refine S_getR qX7_holds_167 fX7_83 e83_24 ?_
      refine S_il3 qX7_holds_170 ?_
      refine S_il7 qX7_holds_171 ?_
      refine S_if_ne (d := qX7_holds_173) (kt := fun c173 => ?_) (kf := fun c173 => ?_)
      · refine S_il7 qX7_holds_194 ?_
        refine S_iconst qX7_holds_196 ?_
        refine S_icmp_ne (d := qX7_holds_197) (kt := fun c197 => ?_) (kf := fun c197 => ?_)
        · refine S_il6 qX7_holds_218 ?_
          refine S_il5 qX7_holds_220 ?_
          refine S_bipush (d := qX7_holds_222) (k := ?_)
          refine S_irem (d := qX7_holds_224) (k := ?_)
          refine S_icmp_le (d := qX7_holds_225) (kt := fun c225 => ?_) (kf := fun c225 => ?_)
          · refine S_iconst qX7_holds_232 ?_
            refine S_bast qX7_holds_233 a98 (K := ?_)
            refine S_inc3 qX7_holds_234 (K := ?_)
            refine S_inc4 qX7_holds_237 (K := ?_)
            refine S_goto qX7_holds_240 ?_
            refine SW.forget 5 (SW.forget 6 (SW.forget 7 ?_))
            rw [upR_s, upR_u]
            refine ih (k + 1) _ _ _ hx' (by omega) (by omega) (by show n + 1 = ((tstM (V 95 k) s d :: st).length : Int); simp; omega) (ex _ ?_) (by simp; omega)
            unfold tstM cmpB
            first
              | (rw [if_pos (by omega), decide_eq_true (by omega)]; rfl)
              | (rw [if_pos (by omega), decide_eq_false (by omega)]; rfl)
              | (rw [if_neg (by omega), if_pos (by omega), decide_eq_true (by omega)]; rfl)
              | (rw [if_neg (by omega), if_pos (by omega), decide_eq_false (by omega)]; rfl)
              | (rw [if_neg (by omega), if_neg (by omega), decide_eq_true (by omega)]; rfl)
              | (rw [if_neg (by omega), if_neg (by omega), decide_eq_false (by omega)]; rfl)
          · refine S_iconst qX7_holds_228 ?_
            refine S_goto qX7_holds_229 ?_
            refine S_bast qX7_holds_233 a98 (K := ?_)
            refine S_inc3 qX7_holds_234 (K := ?_)
            refine S_inc4 qX7_holds_237 (K := ?_)
            refine S_goto qX7_holds_240 ?_
            refine SW.forget 5 (SW.forget 6 (SW.forget 7 ?_))
            rw [upR_s, upR_u]
            refine ih (k + 1) _ _ _ hx' (by omega) (by omega) (by show n + 1 = ((tstM (V 95 k) s d :: st).length : Int); simp; omega) (ex _ ?_) (by simp; omega)
            unfold tstM cmpB
            first
              | (rw [if_pos (by omega), decide_eq_true (by omega)]; rfl)
              | (rw [if_pos (by omega), decide_eq_false (by omega)]; rfl)
              | (rw [if_neg (by omega), if_pos (by omega), decide_eq_true (by omega)]; rfl)
              | (rw [if_neg (by omega), if_pos (by omega), decide_eq_false (by omega)]; rfl)
              | (rw [if_neg (by omega), if_neg (by omega), decide_eq_true (by omega)]; rfl)
              | (rw [if_neg (by omega), if_neg (by omega), decide_eq_false (by omega)]; rfl)
        · refine S_il6 qX7_holds_200 ?_
          refine S_il5 qX7_holds_202 ?_
          refine S_bipush (d := qX7_holds_204) (k := ?_)
          refine S_irem (d := qX7_holds_206) (k := ?_)
          refine S_icmp_ne (d := qX7_holds_207) (kt := fun c207 => ?_) (kf := fun c207 => ?_)
          · refine S_iconst qX7_holds_214 ?_
            refine S_goto qX7_holds_215 ?_
            refine S_bast qX7_holds_233 a98 (K := ?_)
            refine S_inc3 qX7_holds_234 (K := ?_)
            refine S_inc4 qX7_holds_237 (K := ?_)
            refine S_goto qX7_holds_240 ?_
            refine SW.forget 5 (SW.forget 6 (SW.forget 7 ?_))
            rw [upR_s, upR_u]
            refine ih (k + 1) _ _ _ hx' (by omega) (by omega) (by show n + 1 = ((tstM (V 95 k) s d :: st).length : Int); simp; omega) (ex _ ?_) (by simp; omega)
            unfold tstM cmpB
            first
              | (rw [if_pos (by omega), decide_eq_true (by omega)]; rfl)
              | (rw [if_pos (by omega), decide_eq_false (by omega)]; rfl)
              | (rw [if_neg (by omega), if_pos (by omega), decide_eq_true (by omega)]; rfl)
              | (rw [if_neg (by omega), if_pos (by omega), decide_eq_false (by omega)]; rfl)
              | (rw [if_neg (by omega), if_neg (by omega), decide_eq_true (by omega)]; rfl)
              | (rw [if_neg (by omega), if_neg (by omega), decide_eq_false (by omega)]; rfl)
          · refine S_iconst qX7_holds_210 ?_
            refine S_goto qX7_holds_211 ?_
            refine S_bast qX7_holds_233 a98 (K := ?_)
            refine S_inc3 qX7_holds_234 (K := ?_)
            refine S_inc4 qX7_holds_237 (K := ?_)
            refine S_goto qX7_holds_240 ?_
            refine SW.forget 5 (SW.forget 6 (SW.forget 7 ?_))
            rw [upR_s, upR_u]
            refine ih (k + 1) _ _ _ hx' (by omega) (by omega) (by show n + 1 = ((tstM (V 95 k) s d :: st).length : Int); simp; omega) (ex _ ?_) (by simp; omega)
            unfold tstM cmpB
            first
              | (rw [if_pos (by omega), decide_eq_true (by omega)]; rfl)
              | (rw [if_pos (by omega), decide_eq_false (by omega)]; rfl)
              | (rw [if_neg (by omega), if_pos (by omega), decide_eq_true (by omega)]; rfl)
              | (rw [if_neg (by omega), if_pos (by omega), decide_eq_false (by omega)]; rfl)
              | (rw [if_neg (by omega), if_neg (by omega), decide_eq_true (by omega)]; rfl)
              | (rw [if_neg (by omega), if_neg (by omega), decide_eq_false (by omega)]; rfl)
      · refine S_il6 qX7_holds_176 ?_
        refine S_il5 qX7_holds_178 ?_
        refine S_bipush (d := qX7_holds_180) (k := ?_)
        refine S_irem (d := qX7_holds_182) (k := ?_)
        refine S_icmp_ge (d := qX7_holds_183) (kt := fun c183 => ?_) (kf := fun c183 => ?_)
        · refine S_iconst qX7_holds_190 ?_
          refine S_goto qX7_holds_191 ?_
          refine S_bast qX7_holds_233 a98 (K := ?_)
          refine S_inc3 qX7_holds_234 (K := ?_)
          refine S_inc4 qX7_holds_237 (K := ?_)
          refine S_goto qX7_holds_240 ?_
          refine SW.forget 5 (SW.forget 6 (SW.forget 7 ?_))
          rw [upR_s, upR_u]
          refine ih (k + 1) _ _ _ hx' (by omega) (by omega) (by show n + 1 = ((tstM (V 95 k) s d :: st).length : Int); simp; omega) (ex _ ?_) (by simp; omega)
          unfold tstM cmpB
          first
            | (rw [if_pos (by omega), decide_eq_true (by omega)]; rfl)
            | (rw [if_pos (by omega), decide_eq_false (by omega)]; rfl)
            | (rw [if_neg (by omega), if_pos (by omega), decide_eq_true (by omega)]; rfl)
            | (rw [if_neg (by omega), if_pos (by omega), decide_eq_false (by omega)]; rfl)
            | (rw [if_neg (by omega), if_neg (by omega), decide_eq_true (by omega)]; rfl)
            | (rw [if_neg (by omega), if_neg (by omega), decide_eq_false (by omega)]; rfl)
        · refine S_iconst qX7_holds_186 ?_
          refine S_goto qX7_holds_187 ?_
          refine S_bast qX7_holds_233 a98 (K := ?_)
          refine S_inc3 qX7_holds_234 (K := ?_)
          refine S_inc4 qX7_holds_237 (K := ?_)
          refine S_goto qX7_holds_240 ?_
          refine SW.forget 5 (SW.forget 6 (SW.forget 7 ?_))
          rw [upR_s, upR_u]
          refine ih (k + 1) _ _ _ hx' (by omega) (by omega) (by show n + 1 = ((tstM (V 95 k) s d :: st).length : Int); simp; omega) (ex _ ?_) (by simp; omega)
          unfold tstM cmpB
          first
            | (rw [if_pos (by omega), decide_eq_true (by omega)]; rfl)
            | (rw [if_pos (by omega), decide_eq_false (by omega)]; rfl)
            | (rw [if_neg (by omega), if_pos (by omega), decide_eq_true (by omega)]; rfl)
            | (rw [if_neg (by omega), if_pos (by omega), decide_eq_false (by omega)]; rfl)
            | (rw [if_neg (by omega), if_neg (by omega), decide_eq_true (by omega)]; rfl)
            | (rw [if_neg (by omega), if_neg (by omega), decide_eq_false (by omega)]; rfl)
theorem m_holds {g : GC} {V : MM} {hs : HS} {s : FS} {c d : Int} (M : FM V hs s) (hc : 0 ≤ c ∧ c < 60) (hd : 0 ≤ d ∧ d < s.1) (hS : SgOK (V 95) (V 93 c) (V 94 c)) : Ct g mX7_holds 2 [vr 83, vi c, vi d] V (RO V (b2i (hldM V c s d))) := by
  refine Ct.of (ls := [some (vr 83), some (vi c), some (vi d), none, none, none, none, none]) (plainFor_of_name (by decide +kernel)) rfl (by exact Nat.le_of_ble_eq_true rfl) (fun X hz hD => ?_)
  obtain ⟨⟨q1, q2, q3⟩, q4, q5⟩ := hS
  obtain ⟨v, hv⟩ := q5 s d
  have ev : hldM V c s d = v := by unfold hldM; rw [hv]; rfl
  rw [ev] at hz
  refine S_iconst qX7_holds_0 ?_
  refine S_is3 qX7_holds_1 (K := ?_)
  refine S_al0 qX7_holds_2 ?_
  refine S_getR qX7_holds_3 fX7_59 e83_16 ?_
  refine S_il1 qX7_holds_6 ?_
  refine S_iald qX7_holds_7 a93 (K := ?_)
  refine S_is4 qX7_holds_8 (K := ?_)
  rw [← upR_id V 98]
  exact holds_loop M hc hd ⟨q1, q3⟩ q4 hz hD (fun V' h => RO.mk h rfl) (V 94 c - V 93 c).toNat (V 93 c) 0 [] (V 98) hv (by omega) (by omega) rfl trivial (by simp)

theorem step_loop {g : GC} {X : CX} {Q : Option AV → MM → Prop} {V : MM} {hs : HS} {s : FS} {d xf : Int} (M0 : FM V hs s) (hd : 0 ≤ d ∧ d < s.1) (hz : Fi g X (some .int) Q) (hD : Dp X 3) (hQ : ∀ V', Om V V' → Q (some (vi xf)) V') : ∀ (k : Nat) (c a : Int) (V1 : MM), fstM (V 83 8) ≤ c → c + k = fstM (V 83 8) + nclM V (V 83 8) → Om V V1 → sumM V s d k c a = xf → SW g X RX7 cX7_step 7 [some (vr 83), some (vi d), some (vi a), some (vi c)] [] V1 := by
  have hM := M0.2.2.1
  have hf0 : 0 ≤ fstM (V 83 8) ∧ fstM (V 83 8) ≤ 50 := by have := hM.1; unfold fstM; split <;> omega
  have ht := hM.1
  have hn := hM.2.1
  intro k
  induction k with
  | zero =>
    intro c a V1 h0 h1 hO hx
    have e8 : V1 83 8 = V 83 8 := by rw [hO 83 (by decide) (by decide) (by decide)]
    have ht1 : -1 ≤ V1 83 8 ∧ V1 83 8 ≤ 5 := by omega
    have e9 : nclM V1 (V1 83 8) = nclM V (V 83 8) := by unfold nclM; rw [e8, hO 90 (by decide) (by decide) (by decide)]
    unfold sumM at hx
    subst hx
    refine S_il3 qX7_step_7 ?_
    refine S_al0 qX7_step_8 ?_
    refine S_V0E hD qX7_step_9 lX7_271 vX7_behindClauses r83 (m_behind ht1) (K := ?_)
    rw [e9, e8]
    refine S_icmp_ge (d := qX7_step_12) (kt := fun c12 => ?_) (kf := fun c12 => ?_)
    rotate_left
    · omega
    refine S_il2 qX7_step_71 ?_
    refine S_iret hz qX7_step_72 ?_
    exact hQ V1 hO
  | succ k ih =>
    intro c a V1 h0 h1 hO hx
    have e8 : V1 83 8 = V 83 8 := by rw [hO 83 (by decide) (by decide) (by decide)]
    have ht1 : -1 ≤ V1 83 8 ∧ V1 83 8 ≤ 5 := by omega
    have e9 : nclM V1 (V1 83 8) = nclM V (V 83 8) := by unfold nclM; rw [e8, hO 90 (by decide) (by decide) (by decide)]
    obtain ⟨hc1, hc2, hc3⟩ := hM.2.2 c (by omega)
    have M := M0.om hO
    unfold sumM at hx
    have hb := b2i_c (hldM V c s d)
    have eh : hldM V1 c s d = hldM V c s d := by unfold hldM; rw [hO 93 (by decide) (by decide) (by decide), hO 94 (by decide) (by decide) (by decide), hO 95 (by decide) (by decide) (by decide)]
    refine S_il3 qX7_step_7 ?_
    refine S_al0 qX7_step_8 ?_
    refine S_V0E hD qX7_step_9 lX7_271 vX7_behindClauses r83 (m_behind ht1) (K := ?_)
    rw [e9, e8]
    refine S_icmp_ge (d := qX7_step_12) (kt := fun c12 => ?_) (kf := fun c12 => ?_)
    · omega
    refine S_al0 qX7_step_15 ?_
    refine S_getR qX7_step_16 fX7_53 e83_14 ?_
    refine S_il3 qX7_step_19 ?_
    refine S_iald qX7_step_20 a91 (K := ?_)
    rw [hO 91 (by decide) (by decide) (by decide)]
    refine S_iconst qX7_step_21 ?_
    refine S_icmp_gt (d := qX7_step_22) (kt := fun c22 => ?_) (kf := fun c22 => ?_)
    · refine S_inc3 qX7_step_65 (K := ?_)
      refine S_goto qX7_step_68 ?_
      first
        | (rw [if_neg (fun q => by omega)] at hx
           exact ih (c + 1) _ _ (by omega) (by omega) hO hx)
        | (rw [if_neg (fun q => by have := q.2; rw [this] at c31; exact absurd c31 (by decide))] at hx
           exact ih (c + 1) _ _ (by omega) (by omega) hO hx)
        | (have hq : hldM V c s d = true := by
             cases h5 : hldM V c s d
             · rw [h5] at c31; exact absurd rfl c31
             · rfl
           rw [if_pos ⟨by omega, hq⟩] at hx
           first
             | (rw [if_pos (by omega)] at hx; exact ih (c + 1) _ _ (by omega) (by omega) hO hx)
             | (rw [if_neg (by omega)] at hx; exact ih (c + 1) _ _ (by omega) (by omega) hO hx))
    · have hS : SgOK (V1 95) (V1 93 c) (V1 94 c) := by rw [hO 93 (by decide) (by decide) (by decide), hO 94 (by decide) (by decide) (by decide), hO 95 (by decide) (by decide) (by decide)]; exact hc3.1 (by omega)
      refine S_al0 qX7_step_25 ?_
      refine S_il3 qX7_step_26 ?_
      refine S_il1 qX7_step_27 ?_
      refine S_V2I hD qX7_step_28 lX7_281 vX7_holds r83 (m_holds M (by omega) hd hS) (kk := fun z28 V28 h28 => ?_)
      obtain ⟨rfl, hO28⟩ := h28
      have hO := hO.tr hO28
      rw [eh]
      refine S_if_ne (d := qX7_step_31) (kt := fun c31 => ?_) (kf := fun c31 => ?_)
      · refine S_il2 qX7_step_37 ?_
        refine S_al0 qX7_step_38 ?_
        refine S_getR qX7_step_39 fX7_53 e83_14 ?_
        refine S_il3 qX7_step_42 ?_
        refine S_iald qX7_step_43 a91 (K := ?_)
        rw [hO 91 (by decide) (by decide) (by decide)]
        refine S_if_ne (d := qX7_step_44) (kt := fun c44 => ?_) (kf := fun c44 => ?_)
        · refine S_al0 qX7_step_56 ?_
          refine S_getR qX7_step_57 fX7_56 e83_15 ?_
          refine S_il3 qX7_step_60 ?_
          refine S_iald qX7_step_61 a92 (K := ?_)
          rw [hO 92 (by decide) (by decide) (by decide)]
          refine S_ineg qX7_step_62 ?_
          refine S_iadd qX7_step_63 ?_
          refine S_is2 qX7_step_64 (K := ?_)
          refine S_inc3 qX7_step_65 (K := ?_)
          refine S_goto qX7_step_68 ?_
          first
            | (rw [if_neg (fun q => by omega)] at hx
               exact ih (c + 1) _ _ (by omega) (by omega) hO hx)
            | (rw [if_neg (fun q => by have := q.2; rw [this] at c31; exact absurd c31 (by decide))] at hx
               exact ih (c + 1) _ _ (by omega) (by omega) hO hx)
            | (have hq : hldM V c s d = true := by
                 cases h5 : hldM V c s d
                 · rw [h5] at c31; exact absurd rfl c31
                 · rfl
               rw [if_pos ⟨by omega, hq⟩] at hx
               first
                 | (rw [if_pos (by omega)] at hx; exact ih (c + 1) _ _ (by omega) (by omega) hO hx)
                 | (rw [if_neg (by omega)] at hx; exact ih (c + 1) _ _ (by omega) (by omega) hO hx))
        · refine S_al0 qX7_step_47 ?_
          refine S_getR qX7_step_48 fX7_56 e83_15 ?_
          refine S_il3 qX7_step_51 ?_
          refine S_iald qX7_step_52 a92 (K := ?_)
          rw [hO 92 (by decide) (by decide) (by decide)]
          refine S_goto qX7_step_53 ?_
          refine S_iadd qX7_step_63 ?_
          refine S_is2 qX7_step_64 (K := ?_)
          refine S_inc3 qX7_step_65 (K := ?_)
          refine S_goto qX7_step_68 ?_
          first
            | (rw [if_neg (fun q => by omega)] at hx
               exact ih (c + 1) _ _ (by omega) (by omega) hO hx)
            | (rw [if_neg (fun q => by have := q.2; rw [this] at c31; exact absurd c31 (by decide))] at hx
               exact ih (c + 1) _ _ (by omega) (by omega) hO hx)
            | (have hq : hldM V c s d = true := by
                 cases h5 : hldM V c s d
                 · rw [h5] at c31; exact absurd rfl c31
                 · rfl
               rw [if_pos ⟨by omega, hq⟩] at hx
               first
                 | (rw [if_pos (by omega)] at hx; exact ih (c + 1) _ _ (by omega) (by omega) hO hx)
                 | (rw [if_neg (by omega)] at hx; exact ih (c + 1) _ _ (by omega) (by omega) hO hx))
      · refine S_goto qX7_step_34 ?_
        refine S_inc3 qX7_step_65 (K := ?_)
        refine S_goto qX7_step_68 ?_
        first
          | (rw [if_neg (fun q => by omega)] at hx
             exact ih (c + 1) _ _ (by omega) (by omega) hO hx)
          | (rw [if_neg (fun q => by have := q.2; rw [this] at c31; exact absurd c31 (by decide))] at hx
             exact ih (c + 1) _ _ (by omega) (by omega) hO hx)
          | (have hq : hldM V c s d = true := by
               cases h5 : hldM V c s d
               · rw [h5] at c31; exact absurd rfl c31
               · rfl
             rw [if_pos ⟨by omega, hq⟩] at hx
             first
               | (rw [if_pos (by omega)] at hx; exact ih (c + 1) _ _ (by omega) (by omega) hO hx)
               | (rw [if_neg (by omega)] at hx; exact ih (c + 1) _ _ (by omega) (by omega) hO hx))
theorem m_step {g : GC} {V : MM} {hs : HS} {s : FS} {d : Int} (M : FM V hs s) (hd : 0 ≤ d ∧ d < s.1) : Ct g mX7_step 3 [vr 83, vi d] V (RO V (hs.2.2 s d)) := by
  refine Ct.of (ls := [some (vr 83), some (vi d), none, none]) (plainFor_of_name (by decide +kernel)) rfl (by exact Nat.le_of_ble_eq_true rfl) (fun X hz hD => ?_)
  have ht := M.2.2.1.1
  have hn := M.2.2.1.2.1
  have e : hs.2.2 s d = sumM V s d (nclM V (V 83 8)).toNat (fstM (V 83 8)) 0 := by rw [M.2.1]; rfl
  refine S_iconst qX7_step_0 ?_
  refine S_is2 qX7_step_1 (K := ?_)
  refine S_al0 qX7_step_2 ?_
  refine S_V0E hD qX7_step_3 lX7_268 vX7_firstClause r83 (m_first ht) (K := ?_)
  refine S_is3 qX7_step_6 (K := ?_)
  exact step_loop M hd hz hD (fun V' h => RO.mk h rfl) (nclM V (V 83 8)).toNat (fstM (V 83 8)) 0 V (by omega) (by omega) (Om.rf V) e.symm
