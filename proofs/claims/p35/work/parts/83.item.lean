def xMih : xM := (⟨"TwinFires$Text", "itemHere", "()I"⟩, prog_9_method_8_code, 2, some .int, [xR false [4]], [([xR false [4]], some (xI (-1) 9))], [], (5, 107, 0, 0), none)
def xMad : xM := (⟨"TwinFires$Text", "add", "(JI)I"⟩, prog_9_method_2_code, 5, some .int, [xR false [4], xFL, xF], [([xR false [4], xFL, xF], some (xF))], [(4, 2), (39, 0)], (1, 22, 0, 0), none)
