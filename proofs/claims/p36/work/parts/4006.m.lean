/-- TwinFires.put(II)I -/
def xM24 : xM := (⟨"TwinFires", "put", "(II)I"⟩, prog_1_method_4_code, 3, some .int, [xR false [0], xF, xF], [([xR false [0], xF, xF], some (xF))], [(27, 0), (42, 0)], (3, 66, 0, 0), none)
def xT24 : xTab := ([(12, 0, 0)], [], [], [], [], [], [], [(0, 59, 2, some 0, xM8), (0, 67, 3, some 2, xM23)], [], [], [])
set_option maxRecDepth 100000 in
set_option maxHeartbeats 4000000 in
theorem xk24 : x_TOK vwCl x_G x_Zs x_Tb x_Nb xM24 xT24 := by
  intro p l e s m args below meth c D U hx hb hml hts hown hK hK0 hU hnm hN
  have X : x_cx p s m args c D U xM24.2.1 xM24.2.2.1 vwCl x_Tb x_Nb xM24.1.cls := ⟨hx, hb, hml, hown, hts, hK, hK0, hU, hN, x_Tb_good, x_Nb_ok⟩
  exact ⟨(x_cons (fl8 hts) x_nilm), x_nilm, x_nilm, x_nilm, x_nilm, x_nilm, x_nilm, (x_cons (x_cokV (ci := 11) X xm8 rfl rfl rfl (x_cons (x_bw19 7 rfl rfl) (x_cons (x_bw19 9 rfl rfl) (x_cons (x_at 1 (by decide +kernel) rfl) (x_cons (x_bw0 1 rfl rfl) x_nilm)))) (x_bw19 10 rfl rfl) (by decide +kernel) ⟨Nat.le_of_ble_eq_true rfl, Nat.le_of_ble_eq_true rfl⟩) (x_cons (x_cokV (ci := 2) X xm23 rfl rfl rfl (x_cons (x_bw24 8 rfl rfl) (x_cons (x_bw24 9 rfl rfl) (x_cons (x_bw24 10 rfl rfl) (x_cons (x_bw0 2 rfl rfl) x_nilm)))) (x_bw24 11 rfl rfl) (by decide +kernel) ⟨Nat.le_of_ble_eq_true rfl, Nat.le_of_ble_eq_true rfl⟩) x_nilm)), x_nilm, x_nilm, x_nilm⟩
set_option maxRecDepth 1000000 in
theorem xm24 : x_Met vwCl x_G x_Zs x_Tb x_Nb xM24 := x_main xT24 [] [] 2500 (by decide +kernel) (by decide +kernel) xk24 (by decide +kernel)
/-- TwinFires$Land.hasThing(I)Z -/
def xM25 : xM := (⟨"TwinFires$Land", "hasThing", "(I)Z"⟩, prog_4_method_5_code, 2, some .boolean, [xR false [2], xF], [([xR false [2], xI 0 7], some (xI 1 1)), ([xR false [2], xF], some (xI 0 0))], [], (0, 0, 0, 0), none)
def xT25 : xTab := ([(73, 2, 6)], [], [], [], [], [], [], [], [], [], [])
set_option maxRecDepth 100000 in
set_option maxHeartbeats 4000000 in
theorem xk25 : x_TOK vwCl x_G x_Zs x_Tb x_Nb xM25 xT25 := by
  intro p l e s m args below meth c D U hx hb hml hts hown hK hK0 hU hnm hN
  have X : x_cx p s m args c D U xM25.2.1 xM25.2.2.1 vwCl x_Tb x_Nb xM25.1.cls := ⟨hx, hb, hml, hown, hts, hK, hK0, hU, hN, x_Tb_good, x_Nb_ok⟩
  exact ⟨(x_cons (fl42 hts) x_nilm), x_nilm, x_nilm, x_nilm, x_nilm, x_nilm, x_nilm, x_nilm, x_nilm, x_nilm, x_nilm⟩
set_option maxRecDepth 1000000 in
theorem xm25 : x_Met vwCl x_G x_Zs x_Tb x_Nb xM25 := x_main xT25 [] [] 2500 (by decide +kernel) (by decide +kernel) xk25 (by decide +kernel)
/-- TwinFires$Stone.isWorkable()Z -/
def xM26 : xM := (⟨"TwinFires$Stone", "isWorkable", "()Z"⟩, prog_8_method_3_code, 1, some .boolean, [xR false [11]], [([xR false [11]], some (xI 0 0))], [], (0, 0, 0, 0), none)
def xT26 : xTab := ([], [], [], [], [], [], [], [], [], [], [])
set_option maxRecDepth 100000 in
set_option maxHeartbeats 4000000 in
theorem xk26 : x_TOK vwCl x_G x_Zs x_Tb x_Nb xM26 xT26 := by
  intro p l e s m args below meth c D U hx hb hml hts hown hK hK0 hU hnm hN
  have X : x_cx p s m args c D U xM26.2.1 xM26.2.2.1 vwCl x_Tb x_Nb xM26.1.cls := ⟨hx, hb, hml, hown, hts, hK, hK0, hU, hN, x_Tb_good, x_Nb_ok⟩
  exact ⟨x_nilm, x_nilm, x_nilm, x_nilm, x_nilm, x_nilm, x_nilm, x_nilm, x_nilm, x_nilm, x_nilm⟩
set_option maxRecDepth 1000000 in
theorem xm26 : x_Met vwCl x_G x_Zs x_Tb x_Nb xM26 := x_main xT26 [] [] 2500 (by decide +kernel) (by decide +kernel) xk26 (by decide +kernel)
/-- TwinFires$Wood.isWorkable()Z -/
def xM27 : xM := (⟨"TwinFires$Wood", "isWorkable", "()Z"⟩, prog_12_method_4_code, 1, some .boolean, [xR false [12, 13, 14, 15]], [([xR false [12, 13, 14, 15]], some (xI 1 1))], [], (0, 0, 0, 0), none)
def xT27 : xTab := ([], [], [], [], [], [], [], [], [], [], [])
set_option maxRecDepth 100000 in
set_option maxHeartbeats 4000000 in
theorem xk27 : x_TOK vwCl x_G x_Zs x_Tb x_Nb xM27 xT27 := by
  intro p l e s m args below meth c D U hx hb hml hts hown hK hK0 hU hnm hN
  have X : x_cx p s m args c D U xM27.2.1 xM27.2.2.1 vwCl x_Tb x_Nb xM27.1.cls := ⟨hx, hb, hml, hown, hts, hK, hK0, hU, hN, x_Tb_good, x_Nb_ok⟩
  exact ⟨x_nilm, x_nilm, x_nilm, x_nilm, x_nilm, x_nilm, x_nilm, x_nilm, x_nilm, x_nilm, x_nilm⟩
set_option maxRecDepth 1000000 in
theorem xm27 : x_Met vwCl x_G x_Zs x_Tb x_Nb xM27 := x_main xT27 [] [] 2500 (by decide +kernel) (by decide +kernel) xk27 (by decide +kernel)
/-- TwinFires$Wall.isWorkable()Z -/
def xM28 : xM := (⟨"TwinFires$Wall", "isWorkable", "()Z"⟩, prog_11_method_3_code, 1, some .boolean, [xR false [16]], [([xR false [16]], some (xI 1 1))], [], (0, 0, 0, 0), none)
def xT28 : xTab := ([], [], [], [], [], [], [], [], [], [], [])
set_option maxRecDepth 100000 in
set_option maxHeartbeats 4000000 in
theorem xk28 : x_TOK vwCl x_G x_Zs x_Tb x_Nb xM28 xT28 := by
  intro p l e s m args below meth c D U hx hb hml hts hown hK hK0 hU hnm hN
  have X : x_cx p s m args c D U xM28.2.1 xM28.2.2.1 vwCl x_Tb x_Nb xM28.1.cls := ⟨hx, hb, hml, hown, hts, hK, hK0, hU, hN, x_Tb_good, x_Nb_ok⟩
  exact ⟨x_nilm, x_nilm, x_nilm, x_nilm, x_nilm, x_nilm, x_nilm, x_nilm, x_nilm, x_nilm, x_nilm⟩
set_option maxRecDepth 1000000 in
theorem xm28 : x_Met vwCl x_G x_Zs x_Tb x_Nb xM28 := x_main xT28 [] [] 2500 (by decide +kernel) (by decide +kernel) xk28 (by decide +kernel)
/-- TwinFires.work(IZ)I -/
def xM29 : xM := (⟨"TwinFires", "work", "(IZ)I"⟩, prog_1_method_5_code, 4, some .int, [xR false [0], xF, xI 0 1], [([xR false [0], xF, xI 0 1], some (xF))], [(25, 0), (42, 0)], (3, 66, 0, 0), none)
def xT29 : xTab := ([(12, 0, 0), (75, 2, 7), (85, 2, 8)], [], [], [], [], [], [], [(0, 59, 2, some 0, xM8), (0, 71, 2, some 2, xM25), (0, 79, 1, some 11, xM26), (0, 79, 1, some 12, xM27), (0, 79, 1, some 13, xM27), (0, 79, 1, some 14, xM27), (0, 79, 1, some 15, xM27), (0, 79, 1, some 16, xM28)], [], [], [])
set_option maxRecDepth 100000 in
set_option maxHeartbeats 4000000 in
theorem xk29 : x_TOK vwCl x_G x_Zs x_Tb x_Nb xM29 xT29 := by
  intro p l e s m args below meth c D U hx hb hml hts hown hK hK0 hU hnm hN
  have X : x_cx p s m args c D U xM29.2.1 xM29.2.2.1 vwCl x_Tb x_Nb xM29.1.cls := ⟨hx, hb, hml, hown, hts, hK, hK0, hU, hN, x_Tb_good, x_Nb_ok⟩
  exact ⟨(x_cons (fl8 hts) (x_cons (fl45 hts) (x_cons (fl46 hts) x_nilm))), x_nilm, x_nilm, x_nilm, x_nilm, x_nilm, x_nilm, (x_cons (x_cokV (ci := 11) X xm8 rfl rfl rfl (x_cons (x_bw19 7 rfl rfl) (x_cons (x_bw19 9 rfl rfl) (x_cons (x_at 1 (by decide +kernel) rfl) (x_cons (x_bw0 1 rfl rfl) x_nilm)))) (x_bw19 10 rfl rfl) (by decide +kernel) ⟨Nat.le_of_ble_eq_true rfl, Nat.le_of_ble_eq_true rfl⟩) (x_cons (x_cokV (ci := 2) X xm25 rfl rfl rfl (x_cons (x_bw25 4 rfl rfl) (x_cons (x_bw25 5 rfl rfl) (x_cons (x_bw25 6 rfl rfl) (x_cons (x_bw0 2 rfl rfl) x_nilm)))) (x_bw25 7 rfl rfl) (by decide +kernel) ⟨Nat.le_of_ble_eq_true rfl, Nat.le_of_ble_eq_true rfl⟩) (x_cons (x_cokV (ci := 6) X xm26 rfl rfl rfl (x_cons (x_bw25 8 rfl rfl) (x_cons (x_bw25 9 rfl rfl) (x_cons (x_bw25 10 rfl rfl) (x_cons (x_bw0 4 rfl rfl) x_nilm)))) (x_bw26 5 rfl rfl) (by decide +kernel) ⟨Nat.le_of_ble_eq_true rfl, Nat.le_of_ble_eq_true rfl⟩) (x_cons (x_cokO (ci := 10) (x := ⟨"TwinFires$Stone", "isWorkable", "()Z"⟩) (b0 := prog_8_method_3_code) (m0 := 1) (r0 := some .boolean) X xm27 rfl rfl (x_bw26 5 rfl rfl) (x_cons (x_bw25 8 rfl rfl) (x_cons (x_bw25 11 rfl rfl) (x_cons (x_bw25 9 rfl rfl) (x_cons (x_bw26 4 rfl rfl) (x_cons (x_bw25 13 rfl rfl) (x_cons (x_bw0 10 rfl rfl) x_nilm)))))) (x_bw25 14 rfl rfl) (by decide +kernel) ⟨Nat.le_of_ble_eq_true rfl, Nat.le_of_ble_eq_true rfl⟩) (x_cons (x_cokO (ci := 4) (x := ⟨"TwinFires$Stone", "isWorkable", "()Z"⟩) (b0 := prog_8_method_3_code) (m0 := 1) (r0 := some .boolean) X xm27 rfl rfl (x_bw26 5 rfl rfl) (x_cons (x_bw25 8 rfl rfl) (x_cons (x_bw25 11 rfl rfl) (x_cons (x_bw25 9 rfl rfl) (x_cons (x_bw25 15 rfl rfl) (x_cons (x_bw25 13 rfl rfl) (x_cons (x_bw0 10 rfl rfl) x_nilm)))))) (x_bw25 14 rfl rfl) (by decide +kernel) ⟨Nat.le_of_ble_eq_true rfl, Nat.le_of_ble_eq_true rfl⟩) (x_cons (x_cokO (ci := 1) (x := ⟨"TwinFires$Stone", "isWorkable", "()Z"⟩) (b0 := prog_8_method_3_code) (m0 := 1) (r0 := some .boolean) X xm27 rfl rfl (x_bw26 5 rfl rfl) (x_cons (x_bw25 8 rfl rfl) (x_cons (x_bw25 11 rfl rfl) (x_cons (x_bw25 9 rfl rfl) (x_cons (x_bw25 12 rfl rfl) (x_cons (x_bw25 13 rfl rfl) (x_cons (x_bw0 10 rfl rfl) x_nilm)))))) (x_bw25 14 rfl rfl) (by decide +kernel) ⟨Nat.le_of_ble_eq_true rfl, Nat.le_of_ble_eq_true rfl⟩) (x_cons (x_cokO (ci := 8) (x := ⟨"TwinFires$Stone", "isWorkable", "()Z"⟩) (b0 := prog_8_method_3_code) (m0 := 1) (r0 := some .boolean) X xm27 rfl rfl (x_bw26 5 rfl rfl) (x_cons (x_bw25 8 rfl rfl) (x_cons (x_bw25 11 rfl rfl) (x_cons (x_bw25 9 rfl rfl) (x_cons (x_bw26 0 rfl rfl) (x_cons (x_bw25 13 rfl rfl) (x_cons (x_bw0 10 rfl rfl) x_nilm)))))) (x_bw25 14 rfl rfl) (by decide +kernel) ⟨Nat.le_of_ble_eq_true rfl, Nat.le_of_ble_eq_true rfl⟩) (x_cons (x_cokO (ci := 9) (x := ⟨"TwinFires$Stone", "isWorkable", "()Z"⟩) (b0 := prog_8_method_3_code) (m0 := 1) (r0 := some .boolean) X xm28 rfl rfl (x_bw26 5 rfl rfl) (x_cons (x_bw25 8 rfl rfl) (x_cons (x_bw25 11 rfl rfl) (x_cons (x_bw25 9 rfl rfl) (x_cons (x_bw26 1 rfl rfl) (x_cons (x_bw26 2 rfl rfl) (x_cons (x_bw0 14 rfl rfl) x_nilm)))))) (x_bw26 3 rfl rfl) (by decide +kernel) ⟨Nat.le_of_ble_eq_true rfl, Nat.le_of_ble_eq_true rfl⟩) x_nilm)))))))), x_nilm, x_nilm, x_nilm⟩
set_option maxRecDepth 1000000 in
theorem xm29 : x_Met vwCl x_G x_Zs x_Tb x_Nb xM29 := x_main xT29 [] [] 2500 (by decide +kernel) (by decide +kernel) xk29 (by decide +kernel)
/-- TwinFires.cost(II)I -/
def xM30 : xM := (⟨"TwinFires", "cost", "(II)I"⟩, prog_1_method_6_code, 4, some .int, [xR false [0], xF, xF], [([xR false [0], xF, xF], some (xF))], [(26, 0), (42, 0)], (3, 66, 0, 0), none)
def xT30 : xTab := ([(12, 0, 0), (92, 2, 9)], [], [], [], [], [], [], [(1, 88, 3, none, xM3), (0, 59, 2, some 0, xM8), (0, 71, 2, some 2, xM25)], [], [], [])
set_option maxRecDepth 100000 in
set_option maxHeartbeats 4000000 in
theorem xk30 : x_TOK vwCl x_G x_Zs x_Tb x_Nb xM30 xT30 := by
  intro p l e s m args below meth c D U hx hb hml hts hown hK hK0 hU hnm hN
  have X : x_cx p s m args c D U xM30.2.1 xM30.2.2.1 vwCl x_Tb x_Nb xM30.1.cls := ⟨hx, hb, hml, hown, hts, hK, hK0, hU, hN, x_Tb_good, x_Nb_ok⟩
  exact ⟨(x_cons (fl8 hts) (x_cons (fl47 hts) x_nilm)), x_nilm, x_nilm, x_nilm, x_nilm, x_nilm, x_nilm, (x_cons (x_cokS X xm3 (x_cons (x_bw19 15 rfl rfl) (x_cons (x_bw19 1 rfl rfl) (x_cons (x_bw0 1 rfl rfl) x_nilm))) (x_bw19 2 rfl rfl) (by decide +kernel) ⟨Nat.le_of_ble_eq_true rfl, Nat.le_of_ble_eq_true rfl⟩) (x_cons (x_cokV (ci := 11) X xm8 rfl rfl rfl (x_cons (x_bw19 7 rfl rfl) (x_cons (x_bw19 9 rfl rfl) (x_cons (x_at 1 (by decide +kernel) rfl) (x_cons (x_bw0 1 rfl rfl) x_nilm)))) (x_bw19 10 rfl rfl) (by decide +kernel) ⟨Nat.le_of_ble_eq_true rfl, Nat.le_of_ble_eq_true rfl⟩) (x_cons (x_cokV (ci := 2) X xm25 rfl rfl rfl (x_cons (x_bw25 4 rfl rfl) (x_cons (x_bw25 5 rfl rfl) (x_cons (x_bw25 6 rfl rfl) (x_cons (x_bw0 2 rfl rfl) x_nilm)))) (x_bw25 7 rfl rfl) (by decide +kernel) ⟨Nat.le_of_ble_eq_true rfl, Nat.le_of_ble_eq_true rfl⟩) x_nilm))), x_nilm, x_nilm, x_nilm⟩
set_option maxRecDepth 1000000 in
theorem xm30 : x_Met vwCl x_G x_Zs x_Tb x_Nb xM30 := x_main xT30 [] [] 2500 (by decide +kernel) (by decide +kernel) xk30 (by decide +kernel)
