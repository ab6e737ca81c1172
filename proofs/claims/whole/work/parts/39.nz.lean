def inRb (k : Nat) (i : Int) : Bool := match sh k with
  | .inl o => decide (0 ≤ i ∧ i < o.2.length)
  | .inr a => decide (0 ≤ i ∧ i < a.2)
theorem inRb_j {k : Nat} {i : Int} : inRb k i = true ↔ inR k i := by
  unfold inRb inR
  cases sh k <;> simp
/-- the memory, naught where no entry lies -/
def nz (V : MM) : MM := fun k i => if inRb k i = true then V k i else 0
theorem nz_in {V : MM} {k : Nat} {i : Int} (h : inR k i) : nz V k i = V k i := if_pos (inRb_j.mpr h)
theorem Ct.nz {g : GC} {M : MN} {d : Nat} {as : List AV} {V : MM} {Q : Option AV → MM → Prop} (h : Ct g M d as V Q) : Ct g M d as V (fun r V2 => ∃ V1, V2 = nz V1 ∧ Q r V1) := by
  intro p e h1 h2 h3 s m args below a1 a2 a3 a4
  obtain ⟨n, o, b1, b2, b3, ⟨⟨r, V1, c1, c2, c3⟩, c4⟩, b5⟩ := h p e h1 h2 h3 s m args below a1 a2 a3 a4
  exact ⟨n, o, b1, b2, b3, ⟨⟨r, _, c1, ⟨V1, rfl, c2⟩, wl_cong (fun k i hk => (nz_in hk).symm) c3⟩, c4⟩, b5⟩
