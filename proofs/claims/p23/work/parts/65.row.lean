def xMrw : xM := (⟨"TwinFiresModel", "row", "(III)I"⟩, prog_14_method_58_code, 7, some .int, [xR false [17], xF, xF, xF], [([xR false [17], xF, xF, xF], some (xF))], [(50, 0), (51, 0), (55, 0), (56, 0), (57, 0)], (6, 148, 0, 0), none)
theorem y_four {Y : xY} {t u w x : xV} {av : List Value} (h : x_cs Y [t, u, w, x] av) : ∃ a b c d, av = [a, b, c, d] ∧ x_c Y t a ∧ x_c Y u b ∧ x_c Y w c ∧ x_c Y x d := by
  obtain ⟨h1, h2⟩ := h
  match av, h1 with
  | [a, b, c, d], _ => exact ⟨a, b, c, d, rfl, h2 0 t a rfl rfl, h2 1 u b rfl rfl, h2 2 w c rfl rfl, h2 3 x d rfl rfl⟩
