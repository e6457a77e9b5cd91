/-- TwinFires.put(II)I -/
def xM24 : xM := (⟨"TwinFires", "put", "(II)I"⟩, prog_1_method_4_code, 3, some .int, [xR false [0], xF, xF], [([xR false [0], xF, xF], some (xF))], [(27, 0), (42, 0)], (3, 66, 0, 0), none)
/-- TwinFires$Land.hasThing(I)Z -/
def xM25 : xM := (⟨"TwinFires$Land", "hasThing", "(I)Z"⟩, prog_4_method_5_code, 2, some .boolean, [xR false [2], xF], [([xR false [2], xI 0 7], some (xI 1 1)), ([xR false [2], xF], some (xI 0 0))], [], (0, 0, 0, 0), none)
def xT25 : xTab := ([(73, 2, 6)], [], [], [], [], [], [], [], [], [], [])
set_option maxRecDepth 100000 in
set_option maxHeartbeats 4000000 in
theorem xk25 : x_TOK vwCl x_G x_Zs x_Tb x_Nb xM25 xT25 := by
  intro p l e s m args below meth c D U hx hb hml hts hown hK hK0 hU hnm hN
  have X : x_cx p s m args c D U xM25.2.1 xM25.2.2.1 vwCl x_Tb x_Nb xM25.1.cls := ⟨hx, hb, hml, hown, hts, hK, hK0, hU, hN, x_Tb_good, x_Nb_ok⟩
  exact ⟨(x_cons (fl42 hts) x_nilm), x_nilm, x_nilm, x_nilm, x_nilm, x_nilm, x_nilm, x_nilm, x_nilm, x_nilm, x_nilm⟩
set_option maxRecDepth 1000000 in
theorem xm25 : x_Met vwCl x_G x_Zs x_Tb x_Nb xM25 := x_main xT25 [] [] 2500 (by decide +kernel) (by decide +kernel) xk25 (by decide +kernel)
/-- TwinFires$Stone.isWorkable()Z -/
def xM26 : xM := (⟨"TwinFires$Stone", "isWorkable", "()Z"⟩, prog_8_method_3_code, 1, some .boolean, [xR false [11]], [([xR false [11]], some (xI 0 0))], [], (0, 0, 0, 0), none)
def xT26 : xTab := ([], [], [], [], [], [], [], [], [], [], [])
set_option maxRecDepth 100000 in
set_option maxHeartbeats 4000000 in
theorem xk26 : x_TOK vwCl x_G x_Zs x_Tb x_Nb xM26 xT26 := by
  intro p l e s m args below meth c D U hx hb hml hts hown hK hK0 hU hnm hN
  have X : x_cx p s m args c D U xM26.2.1 xM26.2.2.1 vwCl x_Tb x_Nb xM26.1.cls := ⟨hx, hb, hml, hown, hts, hK, hK0, hU, hN, x_Tb_good, x_Nb_ok⟩
  exact ⟨x_nilm, x_nilm, x_nilm, x_nilm, x_nilm, x_nilm, x_nilm, x_nilm, x_nilm, x_nilm, x_nilm⟩
set_option maxRecDepth 1000000 in
theorem xm26 : x_Met vwCl x_G x_Zs x_Tb x_Nb xM26 := x_main xT26 [] [] 2500 (by decide +kernel) (by decide +kernel) xk26 (by decide +kernel)
/-- TwinFires$Wood.isWorkable()Z -/
def xM27 : xM := (⟨"TwinFires$Wood", "isWorkable", "()Z"⟩, prog_12_method_4_code, 1, some .boolean, [xR false [12, 13, 14, 15]], [([xR false [12, 13, 14, 15]], some (xI 1 1))], [], (0, 0, 0, 0), none)
def xT27 : xTab := ([], [], [], [], [], [], [], [], [], [], [])
set_option maxRecDepth 100000 in
set_option maxHeartbeats 4000000 in
theorem xk27 : x_TOK vwCl x_G x_Zs x_Tb x_Nb xM27 xT27 := by
  intro p l e s m args below meth c D U hx hb hml hts hown hK hK0 hU hnm hN
  have X : x_cx p s m args c D U xM27.2.1 xM27.2.2.1 vwCl x_Tb x_Nb xM27.1.cls := ⟨hx, hb, hml, hown, hts, hK, hK0, hU, hN, x_Tb_good, x_Nb_ok⟩
  exact ⟨x_nilm, x_nilm, x_nilm, x_nilm, x_nilm, x_nilm, x_nilm, x_nilm, x_nilm, x_nilm, x_nilm⟩
set_option maxRecDepth 1000000 in
theorem xm27 : x_Met vwCl x_G x_Zs x_Tb x_Nb xM27 := x_main xT27 [] [] 2500 (by decide +kernel) (by decide +kernel) xk27 (by decide +kernel)
/-- TwinFires$Wall.isWorkable()Z -/
def xM28 : xM := (⟨"TwinFires$Wall", "isWorkable", "()Z"⟩, prog_11_method_3_code, 1, some .boolean, [xR false [16]], [([xR false [16]], some (xI 1 1))], [], (0, 0, 0, 0), none)
def xT28 : xTab := ([], [], [], [], [], [], [], [], [], [], [])
set_option maxRecDepth 100000 in
set_option maxHeartbeats 4000000 in
theorem xk28 : x_TOK vwCl x_G x_Zs x_Tb x_Nb xM28 xT28 := by
  intro p l e s m args below meth c D U hx hb hml hts hown hK hK0 hU hnm hN
  have X : x_cx p s m args c D U xM28.2.1 xM28.2.2.1 vwCl x_Tb x_Nb xM28.1.cls := ⟨hx, hb, hml, hown, hts, hK, hK0, hU, hN, x_Tb_good, x_Nb_ok⟩
  exact ⟨x_nilm, x_nilm, x_nilm, x_nilm, x_nilm, x_nilm, x_nilm, x_nilm, x_nilm, x_nilm, x_nilm⟩
set_option maxRecDepth 1000000 in
theorem xm28 : x_Met vwCl x_G x_Zs x_Tb x_Nb xM28 := x_main xT28 [] [] 2500 (by decide +kernel) (by decide +kernel) xk28 (by decide +kernel)
/-- TwinFires.work(IZ)I -/
def xM29 : xM := (⟨"TwinFires", "work", "(IZ)I"⟩, prog_1_method_5_code, 4, some .int, [xR false [0], xF, xI 0 1], [([xR false [0], xF, xI 0 1], some (xF))], [(25, 0), (42, 0)], (3, 66, 0, 0), none)
/-- TwinFires.cost(II)I -/
def xM30 : xM := (⟨"TwinFires", "cost", "(II)I"⟩, prog_1_method_6_code, 4, some .int, [xR false [0], xF, xF], [([xR false [0], xF, xF], some (xF))], [(26, 0), (42, 0)], (3, 66, 0, 0), none)
