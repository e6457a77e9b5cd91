/-! THE TWO ARRAYS of letters read stay two -/
theorem z_rr.E {D : va_G} {U : State} {Y : xY} {x : Nat} {H H' : Heap} {ef : List (Nat × Nat)} (h : z_rr D H x) (hH : x_H D x_G x_Zs U Y H) (hx : Y x = some 0) (hE : x_E D x_G ef Y H H') (hn : ((0, 5) ∉ ef) ∧ ((8, 4) ∉ ef) ∧ ((8, 5) ∉ ef)) : z_rr D H' x := by
  obtain ⟨ro, s1, y1⟩ := y_fldR (k := 5) hH hx rfl rfl
  obtain ⟨rd, s2, y2⟩ := y_fldR (k := 4) hH y1 rfl rfl
  obtain ⟨rn, s3, y3⟩ := y_fldR (k := 5) hH y1 rfl rfl
  have t1 := y_Efld hE hx rfl (by decide) hn.1 s1
  have t2 := y_Efld hE y1 rfl (by decide) hn.2.1 s2
  have t3 := y_Efld hE y1 rfl (by decide) hn.2.2 s3
  intro o d n h1 h2 h3
  cases h1.symm.trans t1
  cases h2.symm.trans t2
  cases h3.symm.trans t3
  exact h _ _ _ s1 s2 s3
theorem z_rr.new {D : va_G} {U : State} {Y : xY} {x : Nat} {H H' : Heap} (h : z_rr D H x) (hH : x_H D x_G x_Zs U Y H) (hx : Y x = some 0) (hk : ∀ q u, Y q = some u → H'[q]? = H[q]?) : z_rr D H' x := by
  obtain ⟨ro, s1, y1⟩ := y_fldR (k := 5) hH hx rfl rfl
  obtain ⟨rd, s2, y2⟩ := y_fldR (k := 4) hH y1 rfl rfl
  obtain ⟨rn, s3, y3⟩ := y_fldR (k := 5) hH y1 rfl rfl
  have t1 := y_slk s1 (hk _ _ hx)
  have t2 := y_slk s2 (hk _ _ y1)
  have t3 := y_slk s3 (hk _ _ y1)
  intro o d n h1 h2 h3
  cases h1.symm.trans t1
  cases h2.symm.trans t2
  cases h3.symm.trans t3
  exact h _ _ _ s1 s2 s3

