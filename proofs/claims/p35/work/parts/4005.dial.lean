def xM23 : xM := (⟨"TwinFires$Land", "setDial", "(II)I"⟩, prog_4_method_11_code, 4, some .int, [xR false [2], xF, xF], [([xR false [2], xF, xF], some (xF))], [(27, 0)], (1, 22, 0, 0), none)
