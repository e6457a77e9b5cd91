/-- java/util/Arrays.fill([II)V -/
def xM1017 : xM := (⟨"java/util/Arrays", "fill", "([II)V"⟩, prog_21_method_103_code, 4, none, [xR false [40], xI 0 0], [([xR false [40], xI 0 0], none)], [(40, 0)], (0, 0, 0, 0), none)
