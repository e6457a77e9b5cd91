def xMni : xM := (⟨"TwinFires$Text", "nextItem", "()I"⟩, prog_9_method_4_code, 4, some .int, [xR false [4]], [([xR false [4]], some (xF))], [(4, 3), (4, 4), (40, 0)], (6, 128, 0, 0), none)
