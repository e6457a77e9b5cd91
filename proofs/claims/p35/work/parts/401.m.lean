/-- TwinFires$Stone.stands(IZ)I -/
def xM31 : xM := (⟨"TwinFires$Stone", "stands", "(IZ)I"⟩, prog_8_method_2_code, 3, some .int, [xR false [11], xF, xI 0 1], [([xR false [11], xF, xI 0 1], some (xF))], [], (0, 0, 0, 0), none)
def xT31 : xTab := ([(19, 11, 3)], [], [], [], [], [], [], [], [], [], [])
set_option maxRecDepth 100000 in
set_option maxHeartbeats 4000000 in
theorem xk31 : x_TOK vwCl x_G x_Zs x_Tb x_Nb xM31 xT31 := by
  intro p l e s m args below meth c D U hx hb hml hts hown hK hK0 hU hnm hN
  have X : x_cx p s m args c D U xM31.2.1 xM31.2.2.1 vwCl x_Tb x_Nb xM31.1.cls := ⟨hx, hb, hml, hown, hts, hK, hK0, hU, hN, x_Tb_good, x_Nb_ok⟩
  exact ⟨(x_cons (fl48 hts) x_nilm), x_nilm, x_nilm, x_nilm, x_nilm, x_nilm, x_nilm, x_nilm, x_nilm, x_nilm, x_nilm⟩
set_option maxRecDepth 1000000 in
theorem xm31 : x_Met vwCl x_G x_Zs x_Tb x_Nb xM31 := x_main xT31 [] [] 2500 (by decide +kernel) (by decide +kernel) xk31 (by decide +kernel)
/-- TwinFires$Pine.grownBy(I)I -/
def xM32 : xM := (⟨"TwinFires$Pine", "grownBy", "(I)I"⟩, prog_6_method_2_code, 2, some .int, [xR false [13, 15], xF], [([xR false [13, 15], xF], some (xF))], [], (0, 0, 0, 0), none)
def xT32 : xTab := ([(7, 13, 4), (7, 15, 4)], [], [], [], [], [], [], [], [], [], [])
set_option maxRecDepth 100000 in
set_option maxHeartbeats 4000000 in
theorem xk32 : x_TOK vwCl x_G x_Zs x_Tb x_Nb xM32 xT32 := by
  intro p l e s m args below meth c D U hx hb hml hts hown hK hK0 hU hnm hN
  have X : x_cx p s m args c D U xM32.2.1 xM32.2.2.1 vwCl x_Tb x_Nb xM32.1.cls := ⟨hx, hb, hml, hown, hts, hK, hK0, hU, hN, x_Tb_good, x_Nb_ok⟩
  exact ⟨(x_cons (fl49 hts) (x_cons (fl50 hts) x_nilm)), x_nilm, x_nilm, x_nilm, x_nilm, x_nilm, x_nilm, x_nilm, x_nilm, x_nilm, x_nilm⟩
set_option maxRecDepth 1000000 in
theorem xm32 : x_Met vwCl x_G x_Zs x_Tb x_Nb xM32 := x_main xT32 [] [] 2500 (by decide +kernel) (by decide +kernel) xk32 (by decide +kernel)
/-- TwinFires$Hedge.grownBy(I)I -/
def xM33 : xM := (⟨"TwinFires$Hedge", "grownBy", "(I)I"⟩, prog_3_method_2_code, 2, some .int, [xR false [14], xF], [([xR false [14], xF], some (xF))], [], (0, 0, 0, 0), none)
def xT33 : xTab := ([(7, 14, 4)], [], [], [], [], [], [], [], [], [], [])
set_option maxRecDepth 100000 in
set_option maxHeartbeats 4000000 in
theorem xk33 : x_TOK vwCl x_G x_Zs x_Tb x_Nb xM33 xT33 := by
  intro p l e s m args below meth c D U hx hb hml hts hown hK hK0 hU hnm hN
  have X : x_cx p s m args c D U xM33.2.1 xM33.2.2.1 vwCl x_Tb x_Nb xM33.1.cls := ⟨hx, hb, hml, hown, hts, hK, hK0, hU, hN, x_Tb_good, x_Nb_ok⟩
  exact ⟨(x_cons (fl51 hts) x_nilm), x_nilm, x_nilm, x_nilm, x_nilm, x_nilm, x_nilm, x_nilm, x_nilm, x_nilm, x_nilm⟩
set_option maxRecDepth 1000000 in
theorem xm33 : x_Met vwCl x_G x_Zs x_Tb x_Nb xM33 := x_main xT33 [] [] 2500 (by decide +kernel) (by decide +kernel) xk33 (by decide +kernel)
/-- TwinFires$Wood.grownBy(I)I -/
def xM34 : xM := (⟨"TwinFires$Wood", "grownBy", "(I)I"⟩, prog_12_method_3_code, 2, some .int, [xR false [12], xF], [([xR false [12], xF], some (xF))], [], (0, 0, 0, 0), none)
def xT34 : xTab := ([(25, 12, 4)], [], [], [], [], [], [], [], [], [], [])
set_option maxRecDepth 100000 in
set_option maxHeartbeats 4000000 in
theorem xk34 : x_TOK vwCl x_G x_Zs x_Tb x_Nb xM34 xT34 := by
  intro p l e s m args below meth c D U hx hb hml hts hown hK hK0 hU hnm hN
  have X : x_cx p s m args c D U xM34.2.1 xM34.2.2.1 vwCl x_Tb x_Nb xM34.1.cls := ⟨hx, hb, hml, hown, hts, hK, hK0, hU, hN, x_Tb_good, x_Nb_ok⟩
  exact ⟨(x_cons (fl52 hts) x_nilm), x_nilm, x_nilm, x_nilm, x_nilm, x_nilm, x_nilm, x_nilm, x_nilm, x_nilm, x_nilm⟩
set_option maxRecDepth 1000000 in
theorem xm34 : x_Met vwCl x_G x_Zs x_Tb x_Nb xM34 := x_main xT34 [] [] 2500 (by decide +kernel) (by decide +kernel) xk34 (by decide +kernel)
/-- TwinFires$Wood.stands(IZ)I -/
def xM35 : xM := (⟨"TwinFires$Wood", "stands", "(IZ)I"⟩, prog_12_method_2_code, 3, some .int, [xR false [12, 13, 14, 15], xF, xI 0 1], [([xR false [12, 13, 14, 15], xF, xI 0 1], some (xF))], [], (1, 22, 0, 0), none)
def xT35 : xTab := ([(9, 12, 3), (9, 13, 3), (9, 14, 3), (9, 15, 3)], [], [], [], [], [], [], [(1, 19, 2, none, (xMm2 Lib.Math.min.name prog_16_method_69_code)), (0, 15, 2, some 12, xM34), (0, 15, 2, some 13, xM32), (0, 15, 2, some 14, xM33), (0, 15, 2, some 15, xM32)], [], [], [])
set_option maxRecDepth 100000 in
set_option maxHeartbeats 4000000 in
theorem xk35 : x_TOK vwCl x_G x_Zs x_Tb x_Nb xM35 xT35 := by
  intro p l e s m args below meth c D U hx hb hml hts hown hK hK0 hU hnm hN
  have X : x_cx p s m args c D U xM35.2.1 xM35.2.2.1 vwCl x_Tb x_Nb xM35.1.cls := ⟨hx, hb, hml, hown, hts, hK, hK0, hU, hN, x_Tb_good, x_Nb_ok⟩
  exact ⟨(x_cons (fl53 hts) (x_cons (fl54 hts) (x_cons (fl55 hts) (x_cons (fl56 hts) x_nilm)))), x_nilm, x_nilm, x_nilm, x_nilm, x_nilm, x_nilm, (x_cons (x_cokMin X (by decide +kernel) (x_cons (x_bw28 5 rfl rfl) (x_cons (x_bw28 6 rfl rfl) (x_cons (x_bw0 15 rfl rfl) (x_cons (x_bw28 7 rfl rfl) x_nilm)))) ⟨Nat.le_of_ble_eq_true rfl, Nat.le_of_ble_eq_true rfl⟩) (x_cons (x_cokV (ci := 10) X xm34 rfl rfl rfl (x_cons (x_bw27 9 rfl rfl) (x_cons (x_bw27 10 rfl rfl) (x_cons (x_bw27 11 rfl rfl) (x_cons (x_bw0 10 rfl rfl) x_nilm)))) (x_bw28 4 rfl rfl) (by decide +kernel) ⟨Nat.le_of_ble_eq_true rfl, Nat.le_of_ble_eq_true rfl⟩) (x_cons (x_cokO (ci := 4) (x := ⟨"TwinFires$Wood", "grownBy", "(I)I"⟩) (b0 := prog_12_method_3_code) (m0 := 2) (r0 := some .int) X xm32 rfl rfl (x_bw28 4 rfl rfl) (x_cons (x_bw27 9 rfl rfl) (x_cons (x_bw27 12 rfl rfl) (x_cons (x_bw27 10 rfl rfl) (x_cons (x_bw28 0 rfl rfl) (x_cons (x_bw28 1 rfl rfl) (x_cons (x_bw0 11 rfl rfl) x_nilm)))))) (x_bw28 2 rfl rfl) (by decide +kernel) ⟨Nat.le_of_ble_eq_true rfl, Nat.le_of_ble_eq_true rfl⟩) (x_cons (x_cokO (ci := 1) (x := ⟨"TwinFires$Wood", "grownBy", "(I)I"⟩) (b0 := prog_12_method_3_code) (m0 := 2) (r0 := some .int) X xm33 rfl rfl (x_bw28 4 rfl rfl) (x_cons (x_bw27 9 rfl rfl) (x_cons (x_bw27 12 rfl rfl) (x_cons (x_bw27 10 rfl rfl) (x_cons (x_bw27 13 rfl rfl) (x_cons (x_bw27 14 rfl rfl) (x_cons (x_bw0 12 rfl rfl) x_nilm)))))) (x_bw27 15 rfl rfl) (by decide +kernel) ⟨Nat.le_of_ble_eq_true rfl, Nat.le_of_ble_eq_true rfl⟩) (x_cons (x_cokO (ci := 8) (x := ⟨"TwinFires$Wood", "grownBy", "(I)I"⟩) (b0 := prog_12_method_3_code) (m0 := 2) (r0 := some .int) X xm32 rfl rfl (x_bw28 4 rfl rfl) (x_cons (x_bw27 9 rfl rfl) (x_cons (x_bw27 12 rfl rfl) (x_cons (x_bw27 10 rfl rfl) (x_cons (x_bw28 3 rfl rfl) (x_cons (x_bw28 1 rfl rfl) (x_cons (x_bw0 11 rfl rfl) x_nilm)))))) (x_bw28 2 rfl rfl) (by decide +kernel) ⟨Nat.le_of_ble_eq_true rfl, Nat.le_of_ble_eq_true rfl⟩) x_nilm))))), x_nilm, x_nilm, x_nilm⟩
set_option maxRecDepth 1000000 in
theorem xm35 : x_Met vwCl x_G x_Zs x_Tb x_Nb xM35 := x_main xT35 [] [] 2500 (by decide +kernel) (by decide +kernel) xk35 (by decide +kernel)
/-- TwinFires$Topped.stands(IZ)I -/
def xM36 : xM := (⟨"TwinFires$Topped", "stands", "(IZ)I"⟩, prog_10_method_2_code, 3, some .int, [xR false [15], xF, xI 0 1], [([xR false [15], xF, xI 0 1], some (xF))], [], (2, 44, 0, 0), none)
def xT36 : xTab := ([], [], [], [], [], [], [], [(2, 7, 3, none, xM35)], [], [], [])
set_option maxRecDepth 100000 in
set_option maxHeartbeats 4000000 in
theorem xk36 : x_TOK vwCl x_G x_Zs x_Tb x_Nb xM36 xT36 := by
  intro p l e s m args below meth c D U hx hb hml hts hown hK hK0 hU hnm hN
  have X : x_cx p s m args c D U xM36.2.1 xM36.2.2.1 vwCl x_Tb x_Nb xM36.1.cls := ⟨hx, hb, hml, hown, hts, hK, hK0, hU, hN, x_Tb_good, x_Nb_ok⟩
  exact ⟨x_nilm, x_nilm, x_nilm, x_nilm, x_nilm, x_nilm, x_nilm, (x_cons (x_cokSUP (x := ⟨"TwinFires$Pine", "stands", "(IZ)I"⟩) X xm35 rfl rfl (by decide +kernel) (x_cons (x_bw28 12 rfl rfl) (x_cons (x_bw28 13 rfl rfl) (x_cons (x_bw23 7 rfl rfl) (x_cons (x_bw21 15 rfl rfl) (x_cons (x_bw27 7 rfl rfl) (x_cons (x_bw0 10 rfl rfl) x_nilm)))))) (x_bw27 8 rfl rfl) (by decide +kernel) ⟨Nat.le_of_ble_eq_true rfl, Nat.le_of_ble_eq_true rfl⟩) x_nilm), x_nilm, x_nilm, x_nilm⟩
set_option maxRecDepth 1000000 in
theorem xm36 : x_Met vwCl x_G x_Zs x_Tb x_Nb xM36 := x_main xT36 [] [] 2500 (by decide +kernel) (by decide +kernel) xk36 (by decide +kernel)
/-- TwinFires$Wall.stands(IZ)I -/
def xM37 : xM := (⟨"TwinFires$Wall", "stands", "(IZ)I"⟩, prog_11_method_2_code, 3, some .int, [xR false [16], xF, xI 0 1], [([xR false [16], xF, xI 0 1], some (xF))], [], (0, 0, 0, 0), none)
def xT37 : xTab := ([(7, 16, 3)], [], [], [], [], [], [], [], [], [], [])
set_option maxRecDepth 100000 in
set_option maxHeartbeats 4000000 in
theorem xk37 : x_TOK vwCl x_G x_Zs x_Tb x_Nb xM37 xT37 := by
  intro p l e s m args below meth c D U hx hb hml hts hown hK hK0 hU hnm hN
  have X : x_cx p s m args c D U xM37.2.1 xM37.2.2.1 vwCl x_Tb x_Nb xM37.1.cls := ⟨hx, hb, hml, hown, hts, hK, hK0, hU, hN, x_Tb_good, x_Nb_ok⟩
  exact ⟨(x_cons (fl57 hts) x_nilm), x_nilm, x_nilm, x_nilm, x_nilm, x_nilm, x_nilm, x_nilm, x_nilm, x_nilm, x_nilm⟩
set_option maxRecDepth 1000000 in
theorem xm37 : x_Met vwCl x_G x_Zs x_Tb x_Nb xM37 := x_main xT37 [] [] 2500 (by decide +kernel) (by decide +kernel) xk37 (by decide +kernel)
/-- TwinFires$Land.standing(II)I -/
def xM38 : xM := (⟨"TwinFires$Land", "standing", "(II)I"⟩, prog_4_method_13_code, 3, some .int, [xR false [2], xI 0 7, xF], [([xR false [2], xI 0 7, xF], some (xF))], [], (3, 66, 0, 0), none)
def xT38 : xTab := ([(29, 2, 7), (33, 2, 8)], [], [], [], [], [], [], [(0, 125, 3, some 11, xM31), (0, 125, 3, some 12, xM35), (0, 125, 3, some 13, xM35), (0, 125, 3, some 14, xM35), (0, 125, 3, some 15, xM36), (0, 125, 3, some 16, xM37)], [], [], [])
set_option maxRecDepth 100000 in
set_option maxHeartbeats 4000000 in
theorem xk38 : x_TOK vwCl x_G x_Zs x_Tb x_Nb xM38 xT38 := by
  intro p l e s m args below meth c D U hx hb hml hts hown hK hK0 hU hnm hN
  have X : x_cx p s m args c D U xM38.2.1 xM38.2.2.1 vwCl x_Tb x_Nb xM38.1.cls := ⟨hx, hb, hml, hown, hts, hK, hK0, hU, hN, x_Tb_good, x_Nb_ok⟩
  exact ⟨(x_cons (fl39 hts) (x_cons (fl40 hts) x_nilm)), x_nilm, x_nilm, x_nilm, x_nilm, x_nilm, x_nilm, (x_cons (x_cokV (ci := 6) X xm31 rfl rfl rfl (x_cons (x_bw27 2 rfl rfl) (x_cons (x_bw27 3 rfl rfl) (x_cons (x_bw27 4 rfl rfl) (x_cons (x_bw0 4 rfl rfl) x_nilm)))) (x_bw29 3 rfl rfl) (by decide +kernel) ⟨Nat.le_of_ble_eq_true rfl, Nat.le_of_ble_eq_true rfl⟩) (x_cons (x_cokO (ci := 10) (x := ⟨"TwinFires$Stone", "stands", "(IZ)I"⟩) (b0 := prog_8_method_2_code) (m0 := 3) (r0 := some .int) X xm35 rfl rfl (x_bw29 3 rfl rfl) (x_cons (x_bw27 2 rfl rfl) (x_cons (x_bw27 5 rfl rfl) (x_cons (x_bw27 3 rfl rfl) (x_cons (x_bw29 2 rfl rfl) (x_cons (x_bw27 7 rfl rfl) (x_cons (x_bw0 10 rfl rfl) x_nilm)))))) (x_bw27 8 rfl rfl) (by decide +kernel) ⟨Nat.le_of_ble_eq_true rfl, Nat.le_of_ble_eq_true rfl⟩) (x_cons (x_cokO (ci := 4) (x := ⟨"TwinFires$Stone", "stands", "(IZ)I"⟩) (b0 := prog_8_method_2_code) (m0 := 3) (r0 := some .int) X xm35 rfl rfl (x_bw29 3 rfl rfl) (x_cons (x_bw27 2 rfl rfl) (x_cons (x_bw27 5 rfl rfl) (x_cons (x_bw27 3 rfl rfl) (x_cons (x_bw28 8 rfl rfl) (x_cons (x_bw27 7 rfl rfl) (x_cons (x_bw0 10 rfl rfl) x_nilm)))))) (x_bw27 8 rfl rfl) (by decide +kernel) ⟨Nat.le_of_ble_eq_true rfl, Nat.le_of_ble_eq_true rfl⟩) (x_cons (x_cokO (ci := 1) (x := ⟨"TwinFires$Stone", "stands", "(IZ)I"⟩) (b0 := prog_8_method_2_code) (m0 := 3) (r0 := some .int) X xm35 rfl rfl (x_bw29 3 rfl rfl) (x_cons (x_bw27 2 rfl rfl) (x_cons (x_bw27 5 rfl rfl) (x_cons (x_bw27 3 rfl rfl) (x_cons (x_bw27 6 rfl rfl) (x_cons (x_bw27 7 rfl rfl) (x_cons (x_bw0 10 rfl rfl) x_nilm)))))) (x_bw27 8 rfl rfl) (by decide +kernel) ⟨Nat.le_of_ble_eq_true rfl, Nat.le_of_ble_eq_true rfl⟩) (x_cons (x_cokO (ci := 8) (x := ⟨"TwinFires$Stone", "stands", "(IZ)I"⟩) (b0 := prog_8_method_2_code) (m0 := 3) (r0 := some .int) X xm36 rfl rfl (x_bw29 3 rfl rfl) (x_cons (x_bw27 2 rfl rfl) (x_cons (x_bw27 5 rfl rfl) (x_cons (x_bw27 3 rfl rfl) (x_cons (x_bw28 9 rfl rfl) (x_cons (x_bw28 10 rfl rfl) (x_cons (x_bw0 13 rfl rfl) x_nilm)))))) (x_bw28 11 rfl rfl) (by decide +kernel) ⟨Nat.le_of_ble_eq_true rfl, Nat.le_of_ble_eq_true rfl⟩) (x_cons (x_cokO (ci := 9) (x := ⟨"TwinFires$Stone", "stands", "(IZ)I"⟩) (b0 := prog_8_method_2_code) (m0 := 3) (r0 := some .int) X xm37 rfl rfl (x_bw29 3 rfl rfl) (x_cons (x_bw27 2 rfl rfl) (x_cons (x_bw27 5 rfl rfl) (x_cons (x_bw27 3 rfl rfl) (x_cons (x_bw28 15 rfl rfl) (x_cons (x_bw29 0 rfl rfl) (x_cons (x_bw0 14 rfl rfl) x_nilm)))))) (x_bw29 1 rfl rfl) (by decide +kernel) ⟨Nat.le_of_ble_eq_true rfl, Nat.le_of_ble_eq_true rfl⟩) x_nilm)))))), x_nilm, x_nilm, x_nilm⟩
set_option maxRecDepth 1000000 in
theorem xm38 : x_Met vwCl x_G x_Zs x_Tb x_Nb xM38 := x_main xT38 [] [] 2500 (by decide +kernel) (by decide +kernel) xk38 (by decide +kernel)
/-- TwinFires.high(I)I -/
def xM39 : xM := (⟨"TwinFires", "high", "(I)I"⟩, prog_1_method_7_code, 2, some .int, [xR false [0], xF], [([xR false [0], xF], some (xF))], [(42, 0)], (4, 88, 0, 0), none)
def xT39 : xTab := ([(12, 0, 0), (95, 2, 10)], [], [], [], [], [], [], [(0, 59, 2, some 0, xM8), (0, 71, 2, some 2, xM25), (0, 98, 3, some 2, xM38)], [], [], [])
set_option maxRecDepth 100000 in
set_option maxHeartbeats 4000000 in
theorem xk39 : x_TOK vwCl x_G x_Zs x_Tb x_Nb xM39 xT39 := by
  intro p l e s m args below meth c D U hx hb hml hts hown hK hK0 hU hnm hN
  have X : x_cx p s m args c D U xM39.2.1 xM39.2.2.1 vwCl x_Tb x_Nb xM39.1.cls := ⟨hx, hb, hml, hown, hts, hK, hK0, hU, hN, x_Tb_good, x_Nb_ok⟩
  exact ⟨(x_cons (fl8 hts) (x_cons (fl58 hts) x_nilm)), x_nilm, x_nilm, x_nilm, x_nilm, x_nilm, x_nilm, (x_cons (x_cokV (ci := 11) X xm8 rfl rfl rfl (x_cons (x_bw19 7 rfl rfl) (x_cons (x_bw19 9 rfl rfl) (x_cons (x_at 1 (by decide +kernel) rfl) (x_cons (x_bw0 1 rfl rfl) x_nilm)))) (x_bw19 10 rfl rfl) (by decide +kernel) ⟨Nat.le_of_ble_eq_true rfl, Nat.le_of_ble_eq_true rfl⟩) (x_cons (x_cokV (ci := 2) X xm25 rfl rfl rfl (x_cons (x_bw25 4 rfl rfl) (x_cons (x_bw25 5 rfl rfl) (x_cons (x_bw25 6 rfl rfl) (x_cons (x_bw0 2 rfl rfl) x_nilm)))) (x_bw25 7 rfl rfl) (by decide +kernel) ⟨Nat.le_of_ble_eq_true rfl, Nat.le_of_ble_eq_true rfl⟩) (x_cons (x_cokV (ci := 2) X xm38 rfl rfl rfl (x_cons (x_bw26 14 rfl rfl) (x_cons (x_bw26 15 rfl rfl) (x_cons (x_bw27 0 rfl rfl) (x_cons (x_bw0 2 rfl rfl) x_nilm)))) (x_bw27 1 rfl rfl) (by decide +kernel) ⟨Nat.le_of_ble_eq_true rfl, Nat.le_of_ble_eq_true rfl⟩) x_nilm))), x_nilm, x_nilm, x_nilm⟩
set_option maxRecDepth 1000000 in
theorem xm39 : x_Met vwCl x_G x_Zs x_Tb x_Nb xM39 := x_main xT39 [] [] 2500 (by decide +kernel) (by decide +kernel) xk39 (by decide +kernel)
/-- TwinFires$Land.hasHill(I)Z -/
def xM40 : xM := (⟨"TwinFires$Land", "hasHill", "(I)Z"⟩, prog_4_method_4_code, 2, some .boolean, [xR false [2], xF], [([xR false [2], xI 0 9], some (xI 1 1)), ([xR false [2], xF], some (xI 0 0))], [], (0, 0, 0, 0), none)
def xT40 : xTab := ([(63, 2, 0)], [], [], [], [], [], [], [], [], [], [])
set_option maxRecDepth 100000 in
set_option maxHeartbeats 4000000 in
theorem xk40 : x_TOK vwCl x_G x_Zs x_Tb x_Nb xM40 xT40 := by
  intro p l e s m args below meth c D U hx hb hml hts hown hK hK0 hU hnm hN
  have X : x_cx p s m args c D U xM40.2.1 xM40.2.2.1 vwCl x_Tb x_Nb xM40.1.cls := ⟨hx, hb, hml, hown, hts, hK, hK0, hU, hN, x_Tb_good, x_Nb_ok⟩
  exact ⟨(x_cons (fl2 hts) x_nilm), x_nilm, x_nilm, x_nilm, x_nilm, x_nilm, x_nilm, x_nilm, x_nilm, x_nilm, x_nilm⟩
set_option maxRecDepth 1000000 in
theorem xm40 : x_Met vwCl x_G x_Zs x_Tb x_Nb xM40 := x_main xT40 [] [] 2500 (by decide +kernel) (by decide +kernel) xk40 (by decide +kernel)
/-- TwinFires$Line.draw(LTwinFires$Land;II)V -/
def xM41 : xM := (⟨"TwinFires$Line", "draw", "(LTwinFires$Land;II)V"⟩, prog_5_method_2_code, 4, none, [xR false [10], xR false [2], xI 0 9, xI 0 9], [([xR false [10], xR false [2], xI 0 9, xI 0 9], none)], [(10, 0), (10, 1), (10, 2), (10, 3), (10, 4), (10, 5), (10, 6), (10, 7)], (1, 22, 0, 0), none)
def xT41 : xTab := ([(9, 2, 1), (15, 10, 0), (21, 2, 2), (24, 10, 1), (27, 10, 2), (30, 10, 3), (33, 2, 10), (49, 2, 3)], [(15, 10, 0), (24, 10, 1), (27, 10, 2), (30, 10, 3), (46, 10, 4), (52, 10, 5), (55, 10, 6), (58, 10, 7)], [], [], [], [], [], [(1, 36, 1, none, (xMm1 Lib.Math.abs.name prog_16_method_59_code)), (1, 42, 2, none, (xMm2 Lib.Math.max.name prog_16_method_65_code))], [], [], [])
set_option maxRecDepth 100000 in
set_option maxHeartbeats 4000000 in
theorem xk41 : x_TOK vwCl x_G x_Zs x_Tb x_Nb xM41 xT41 := by
  intro p l e s m args below meth c D U hx hb hml hts hown hK hK0 hU hnm hN
  have X : x_cx p s m args c D U xM41.2.1 xM41.2.2.1 vwCl x_Tb x_Nb xM41.1.cls := ⟨hx, hb, hml, hown, hts, hK, hK0, hU, hN, x_Tb_good, x_Nb_ok⟩
  exact ⟨(x_cons (fl59 hts) (x_cons (fl60 hts) (x_cons (fl61 hts) (x_cons (fl62 hts) (x_cons (fl63 hts) (x_cons (fl64 hts) (x_cons (fl65 hts) (x_cons (fl66 hts) x_nilm)))))))), (x_cons (fw67 hts) (x_cons (fw68 hts) (x_cons (fw69 hts) (x_cons (fw70 hts) (x_cons (fw71 hts) (x_cons (fw72 hts) (x_cons (fw73 hts) (x_cons (fw74 hts) x_nilm)))))))), x_nilm, x_nilm, x_nilm, x_nilm, x_nilm, (x_cons (x_cokAbs X (by decide +kernel) (x_cons (x_bw30 8 rfl rfl) (x_cons (x_bw30 9 rfl rfl) (x_cons (x_bw0 15 rfl rfl) (x_cons (x_bw30 10 rfl rfl) x_nilm)))) ⟨Nat.le_of_ble_eq_true rfl, Nat.le_of_ble_eq_true rfl⟩) (x_cons (x_cokMax X (by decide +kernel) (x_cons (x_bw30 11 rfl rfl) (x_cons (x_bw30 12 rfl rfl) (x_cons (x_bw0 15 rfl rfl) (x_cons (x_bw30 13 rfl rfl) x_nilm)))) ⟨Nat.le_of_ble_eq_true rfl, Nat.le_of_ble_eq_true rfl⟩) x_nilm)), x_nilm, x_nilm, x_nilm⟩
set_option maxRecDepth 1000000 in
theorem xm41 : x_Met vwCl x_G x_Zs x_Tb x_Nb xM41 := x_main xT41 [] [] 2500 (by decide +kernel) (by decide +kernel) xk41 (by decide +kernel)
/-- TwinFires$Line.along(II)I -/
def xM42 : xM := (⟨"TwinFires$Line", "along", "(II)I"⟩, prog_5_method_3_code, 3, some .int, [xR false [10], xF, xF], [([xR false [10], xF, xF], some (xF))], [], (0, 0, 0, 0), none)
def xT42 : xTab := ([(15, 10, 0), (24, 10, 1), (27, 10, 2), (30, 10, 3)], [], [], [], [], [], [], [], [], [], [])
set_option maxRecDepth 100000 in
set_option maxHeartbeats 4000000 in
theorem xk42 : x_TOK vwCl x_G x_Zs x_Tb x_Nb xM42 xT42 := by
  intro p l e s m args below meth c D U hx hb hml hts hown hK hK0 hU hnm hN
  have X : x_cx p s m args c D U xM42.2.1 xM42.2.2.1 vwCl x_Tb x_Nb xM42.1.cls := ⟨hx, hb, hml, hown, hts, hK, hK0, hU, hN, x_Tb_good, x_Nb_ok⟩
  exact ⟨(x_cons (fl60 hts) (x_cons (fl62 hts) (x_cons (fl63 hts) (x_cons (fl64 hts) x_nilm)))), x_nilm, x_nilm, x_nilm, x_nilm, x_nilm, x_nilm, x_nilm, x_nilm, x_nilm, x_nilm⟩
set_option maxRecDepth 1000000 in
theorem xm42 : x_Met vwCl x_G x_Zs x_Tb x_Nb xM42 := x_main xT42 [] [] 2500 (by decide +kernel) (by decide +kernel) xk42 (by decide +kernel)
/-- TwinFires$Line.isBetween(II)Z -/
def xM43 : xM := (⟨"TwinFires$Line", "isBetween", "(II)Z"⟩, prog_5_method_4_code, 4, some .boolean, [xR false [10], xF, xF], [([xR false [10], xF, xF], some (xI 1 1)), ([xR false [10], xF, xF], some (xI 0 0))], [], (1, 22, 0, 0), none)
def xT43 : xTab := ([(58, 10, 7)], [], [], [], [], [], [], [(0, 61, 3, some 10, xM42)], [], [], [])
set_option maxRecDepth 100000 in
set_option maxHeartbeats 4000000 in
theorem xk43 : x_TOK vwCl x_G x_Zs x_Tb x_Nb xM43 xT43 := by
  intro p l e s m args below meth c D U hx hb hml hts hown hK hK0 hU hnm hN
  have X : x_cx p s m args c D U xM43.2.1 xM43.2.2.1 vwCl x_Tb x_Nb xM43.1.cls := ⟨hx, hb, hml, hown, hts, hK, hK0, hU, hN, x_Tb_good, x_Nb_ok⟩
  exact ⟨(x_cons (fl75 hts) x_nilm), x_nilm, x_nilm, x_nilm, x_nilm, x_nilm, x_nilm, (x_cons (x_cokV (ci := 3) X xm42 rfl rfl rfl (x_cons (x_bw31 10 rfl rfl) (x_cons (x_bw31 12 rfl rfl) (x_cons (x_at 5 (by decide +kernel) rfl) (x_cons (x_bw0 7 rfl rfl) x_nilm)))) (x_bw31 13 rfl rfl) (by decide +kernel) ⟨Nat.le_of_ble_eq_true rfl, Nat.le_of_ble_eq_true rfl⟩) x_nilm), x_nilm, x_nilm, x_nilm⟩
set_option maxRecDepth 1000000 in
theorem xm43 : x_Met vwCl x_G x_Zs x_Tb x_Nb xM43 := x_main xT43 [] [] 2500 (by decide +kernel) (by decide +kernel) xk43 (by decide +kernel)
/-- TwinFires$Line.meets(II)Z -/
def xM44 : xM := (⟨"TwinFires$Line", "meets", "(II)Z"⟩, prog_5_method_5_code, 4, some .boolean, [xR false [10], xF, xF], [([xR false [10], xF, xF], some (xI 0 0)), ([xR false [10], xF, xF], some (xI 1 1))], [], (2, 45, 0, 0), none)
def xT44 : xTab := ([(15, 10, 0), (24, 10, 1), (27, 10, 2), (30, 10, 3), (46, 10, 4)], [], [], [], [], [], [], [(1, 36, 1, none, (xMm1 Lib.Math.abs.name prog_16_method_59_code)), (0, 64, 3, some 10, xM43)], [], [], [])
set_option maxRecDepth 100000 in
set_option maxHeartbeats 4000000 in
theorem xk44 : x_TOK vwCl x_G x_Zs x_Tb x_Nb xM44 xT44 := by
  intro p l e s m args below meth c D U hx hb hml hts hown hK hK0 hU hnm hN
  have X : x_cx p s m args c D U xM44.2.1 xM44.2.2.1 vwCl x_Tb x_Nb xM44.1.cls := ⟨hx, hb, hml, hown, hts, hK, hK0, hU, hN, x_Tb_good, x_Nb_ok⟩
  exact ⟨(x_cons (fl60 hts) (x_cons (fl62 hts) (x_cons (fl63 hts) (x_cons (fl64 hts) (x_cons (fl76 hts) x_nilm))))), x_nilm, x_nilm, x_nilm, x_nilm, x_nilm, x_nilm, (x_cons (x_cokAbs X (by decide +kernel) (x_cons (x_bw30 8 rfl rfl) (x_cons (x_bw30 9 rfl rfl) (x_cons (x_bw0 15 rfl rfl) (x_cons (x_bw30 10 rfl rfl) x_nilm)))) ⟨Nat.le_of_ble_eq_true rfl, Nat.le_of_ble_eq_true rfl⟩) (x_cons (x_cokV (ci := 3) X xm43 rfl rfl rfl (x_cons (x_bw31 6 rfl rfl) (x_cons (x_bw31 7 rfl rfl) (x_cons (x_bw31 8 rfl rfl) (x_cons (x_bw0 7 rfl rfl) x_nilm)))) (x_bw31 9 rfl rfl) (by decide +kernel) ⟨Nat.le_of_ble_eq_true rfl, Nat.le_of_ble_eq_true rfl⟩) x_nilm)), x_nilm, x_nilm, x_nilm⟩
set_option maxRecDepth 1000000 in
theorem xm44 : x_Met vwCl x_G x_Zs x_Tb x_Nb xM44 := x_main xT44 [] [] 2500 (by decide +kernel) (by decide +kernel) xk44 (by decide +kernel)
/-- TwinFires$Line.over(III)I -/
def xM45 : xM := (⟨"TwinFires$Line", "over", "(III)I"⟩, prog_5_method_6_code, 4, some .int, [xR false [10], xF, xF, xF], [([xR false [10], xF, xF, xF], some (xF))], [], (1, 22, 0, 0), none)
def xT45 : xTab := ([(52, 10, 5), (55, 10, 6), (58, 10, 7)], [], [], [], [], [], [], [(0, 61, 3, some 10, xM42)], [], [], [])
set_option maxRecDepth 100000 in
set_option maxHeartbeats 4000000 in
theorem xk45 : x_TOK vwCl x_G x_Zs x_Tb x_Nb xM45 xT45 := by
  intro p l e s m args below meth c D U hx hb hml hts hown hK hK0 hU hnm hN
  have X : x_cx p s m args c D U xM45.2.1 xM45.2.2.1 vwCl x_Tb x_Nb xM45.1.cls := ⟨hx, hb, hml, hown, hts, hK, hK0, hU, hN, x_Tb_good, x_Nb_ok⟩
  exact ⟨(x_cons (fl77 hts) (x_cons (fl78 hts) (x_cons (fl75 hts) x_nilm))), x_nilm, x_nilm, x_nilm, x_nilm, x_nilm, x_nilm, (x_cons (x_cokV (ci := 3) X xm42 rfl rfl rfl (x_cons (x_bw31 10 rfl rfl) (x_cons (x_bw31 12 rfl rfl) (x_cons (x_at 5 (by decide +kernel) rfl) (x_cons (x_bw0 7 rfl rfl) x_nilm)))) (x_bw31 13 rfl rfl) (by decide +kernel) ⟨Nat.le_of_ble_eq_true rfl, Nat.le_of_ble_eq_true rfl⟩) x_nilm), x_nilm, x_nilm, x_nilm⟩
set_option maxRecDepth 1000000 in
theorem xm45 : x_Met vwCl x_G x_Zs x_Tb x_Nb xM45 := x_main xT45 [] [] 2500 (by decide +kernel) (by decide +kernel) xk45 (by decide +kernel)
/-- TwinFires$Line.isHidden(III)Z -/
def xM46 : xM := (⟨"TwinFires$Line", "isHidden", "(III)Z"⟩, prog_5_method_7_code, 4, some .boolean, [xR false [10], xF, xF, xF], [([xR false [10], xF, xF, xF], some (xI 1 1)), ([xR false [10], xF, xF, xF], some (xI 0 0))], [], (2, 45, 0, 0), none)
def xT46 : xTab := ([], [], [], [], [], [], [], [(0, 68, 4, some 10, xM45)], [], [], [])
set_option maxRecDepth 100000 in
set_option maxHeartbeats 4000000 in
theorem xk46 : x_TOK vwCl x_G x_Zs x_Tb x_Nb xM46 xT46 := by
  intro p l e s m args below meth c D U hx hb hml hts hown hK hK0 hU hnm hN
  have X : x_cx p s m args c D U xM46.2.1 xM46.2.2.1 vwCl x_Tb x_Nb xM46.1.cls := ⟨hx, hb, hml, hown, hts, hK, hK0, hU, hN, x_Tb_good, x_Nb_ok⟩
  exact ⟨x_nilm, x_nilm, x_nilm, x_nilm, x_nilm, x_nilm, x_nilm, (x_cons (x_cokV (ci := 3) X xm45 rfl rfl rfl (x_cons (x_bw32 2 rfl rfl) (x_cons (x_bw32 3 rfl rfl) (x_cons (x_bw32 4 rfl rfl) (x_cons (x_bw0 7 rfl rfl) x_nilm)))) (x_bw32 5 rfl rfl) (by decide +kernel) ⟨Nat.le_of_ble_eq_true rfl, Nat.le_of_ble_eq_true rfl⟩) x_nilm), x_nilm, x_nilm, x_nilm⟩
set_option maxRecDepth 1000000 in
theorem xm46 : x_Met vwCl x_G x_Zs x_Tb x_Nb xM46 := x_main xT46 [] [] 2500 (by decide +kernel) (by decide +kernel) xk46 (by decide +kernel)
/-- TwinFires$Eyes.isHiddenByHill(LTwinFires$Land;II)Z -/
def xM47 : xM := (⟨"TwinFires$Eyes", "isHiddenByHill", "(LTwinFires$Land;II)Z"⟩, prog_2_method_3_code, 5, some .boolean, [xR false [6], xR false [2], xF, xF], [([xR false [6], xR false [2], xF, xF], some (xI 1 1)), ([xR false [6], xR false [2], xF, xF], some (xI 0 0))], [], (3, 68, 0, 0), none)
def xT47 : xTab := ([(12, 6, 0), (28, 2, 0), (45, 2, 1), (48, 2, 2), (55, 2, 3)], [], [], [], [], [], [], [(0, 51, 3, some 10, xM44), (0, 58, 4, some 10, xM46)], [], [], [])
set_option maxRecDepth 100000 in
set_option maxHeartbeats 4000000 in
theorem xk47 : x_TOK vwCl x_G x_Zs x_Tb x_Nb xM47 xT47 := by
  intro p l e s m args below meth c D U hx hb hml hts hown hK hK0 hU hnm hN
  have X : x_cx p s m args c D U xM47.2.1 xM47.2.2.1 vwCl x_Tb x_Nb xM47.1.cls := ⟨hx, hb, hml, hown, hts, hK, hK0, hU, hN, x_Tb_good, x_Nb_ok⟩
  exact ⟨(x_cons (fl79 hts) (x_cons (fl80 hts) (x_cons (fl81 hts) (x_cons (fl82 hts) (x_cons (fl83 hts) x_nilm))))), x_nilm, x_nilm, x_nilm, x_nilm, x_nilm, x_nilm, (x_cons (x_cokV (ci := 3) X xm44 rfl rfl rfl (x_cons (x_bw31 2 rfl rfl) (x_cons (x_bw31 3 rfl rfl) (x_cons (x_bw31 4 rfl rfl) (x_cons (x_bw0 7 rfl rfl) x_nilm)))) (x_bw31 5 rfl rfl) (by decide +kernel) ⟨Nat.le_of_ble_eq_true rfl, Nat.le_of_ble_eq_true rfl⟩) (x_cons (x_cokV (ci := 3) X xm46 rfl rfl rfl (x_cons (x_bw31 14 rfl rfl) (x_cons (x_bw31 15 rfl rfl) (x_cons (x_bw32 0 rfl rfl) (x_cons (x_bw0 7 rfl rfl) x_nilm)))) (x_bw32 1 rfl rfl) (by decide +kernel) ⟨Nat.le_of_ble_eq_true rfl, Nat.le_of_ble_eq_true rfl⟩) x_nilm)), x_nilm, x_nilm, x_nilm⟩
set_option maxRecDepth 1000000 in
theorem xm47 : x_Met vwCl x_G x_Zs x_Tb x_Nb xM47 := x_main xT47 [(3, ([(0, xR false [6]), (1, xR false [2]), (2, xF), (3, xF), (4, xI 0 10)], [], []), (4, true), [], false, 0, [])] [] 2500 (by decide +kernel) (by decide +kernel) xk47 (by decide +kernel)
/-- TwinFires$Eyes.gatherThings(LTwinFires$Land;II)V -/
def xM48 : xM := (⟨"TwinFires$Eyes", "gatherThings", "(LTwinFires$Land;II)V"⟩, prog_2_method_4_code, 6, none, [xR false [6], xR false [2], xF, xI 0 99], [([xR false [6], xR false [2], xF, xI 0 99], none)], [(33, 0), (34, 0)], (3, 68, 0, 0), none)
def xT48 : xTab := ([(12, 6, 0), (22, 6, 2), (25, 6, 3), (62, 2, 6), (65, 2, 7), (69, 11, 1), (69, 12, 1), (69, 13, 1), (69, 14, 1), (69, 15, 1), (69, 16, 1), (73, 11, 2), (73, 12, 2), (73, 13, 2), (73, 14, 2), (73, 15, 2), (73, 16, 2), (75, 2, 8)], [], [], [], [], [], [], [(0, 51, 3, some 10, xM44), (0, 58, 4, some 10, xM46), (0, 78, 3, some 11, xM31), (0, 78, 3, some 12, xM35), (0, 78, 3, some 13, xM35), (0, 78, 3, some 14, xM35), (0, 78, 3, some 15, xM36), (0, 78, 3, some 16, xM37)], [], [], [])
set_option maxRecDepth 100000 in
set_option maxHeartbeats 4000000 in
theorem xk48 : x_TOK vwCl x_G x_Zs x_Tb x_Nb xM48 xT48 := by
  intro p l e s m args below meth c D U hx hb hml hts hown hK hK0 hU hnm hN
  have X : x_cx p s m args c D U xM48.2.1 xM48.2.2.1 vwCl x_Tb x_Nb xM48.1.cls := ⟨hx, hb, hml, hown, hts, hK, hK0, hU, hN, x_Tb_good, x_Nb_ok⟩
  exact ⟨(x_cons (fl79 hts) (x_cons (fl84 hts) (x_cons (fl85 hts) (x_cons (fl86 hts) (x_cons (fl87 hts) (x_cons (fl88 hts) (x_cons (fl89 hts) (x_cons (fl90 hts) (x_cons (fl91 hts) (x_cons (fl92 hts) (x_cons (fl93 hts) (x_cons (fl94 hts) (x_cons (fl95 hts) (x_cons (fl96 hts) (x_cons (fl97 hts) (x_cons (fl98 hts) (x_cons (fl99 hts) (x_cons (fl100 hts) x_nilm)))))))))))))))))), x_nilm, x_nilm, x_nilm, x_nilm, x_nilm, x_nilm, (x_cons (x_cokV (ci := 3) X xm44 rfl rfl rfl (x_cons (x_bw31 2 rfl rfl) (x_cons (x_bw31 3 rfl rfl) (x_cons (x_bw31 4 rfl rfl) (x_cons (x_bw0 7 rfl rfl) x_nilm)))) (x_bw31 5 rfl rfl) (by decide +kernel) ⟨Nat.le_of_ble_eq_true rfl, Nat.le_of_ble_eq_true rfl⟩) (x_cons (x_cokV (ci := 3) X xm46 rfl rfl rfl (x_cons (x_bw31 14 rfl rfl) (x_cons (x_bw31 15 rfl rfl) (x_cons (x_bw32 0 rfl rfl) (x_cons (x_bw0 7 rfl rfl) x_nilm)))) (x_bw32 1 rfl rfl) (by decide +kernel) ⟨Nat.le_of_ble_eq_true rfl, Nat.le_of_ble_eq_true rfl⟩) (x_cons (x_cokV (ci := 6) X xm31 rfl rfl rfl (x_cons (x_bw32 10 rfl rfl) (x_cons (x_bw27 3 rfl rfl) (x_cons (x_bw27 4 rfl rfl) (x_cons (x_bw0 4 rfl rfl) x_nilm)))) (x_bw29 3 rfl rfl) (by decide +kernel) ⟨Nat.le_of_ble_eq_true rfl, Nat.le_of_ble_eq_true rfl⟩) (x_cons (x_cokO (ci := 10) (x := ⟨"TwinFires$Stone", "stands", "(IZ)I"⟩) (b0 := prog_8_method_2_code) (m0 := 3) (r0 := some .int) X xm35 rfl rfl (x_bw29 3 rfl rfl) (x_cons (x_bw32 10 rfl rfl) (x_cons (x_bw27 5 rfl rfl) (x_cons (x_bw27 3 rfl rfl) (x_cons (x_bw29 2 rfl rfl) (x_cons (x_bw27 7 rfl rfl) (x_cons (x_bw0 10 rfl rfl) x_nilm)))))) (x_bw27 8 rfl rfl) (by decide +kernel) ⟨Nat.le_of_ble_eq_true rfl, Nat.le_of_ble_eq_true rfl⟩) (x_cons (x_cokO (ci := 4) (x := ⟨"TwinFires$Stone", "stands", "(IZ)I"⟩) (b0 := prog_8_method_2_code) (m0 := 3) (r0 := some .int) X xm35 rfl rfl (x_bw29 3 rfl rfl) (x_cons (x_bw32 10 rfl rfl) (x_cons (x_bw27 5 rfl rfl) (x_cons (x_bw27 3 rfl rfl) (x_cons (x_bw28 8 rfl rfl) (x_cons (x_bw27 7 rfl rfl) (x_cons (x_bw0 10 rfl rfl) x_nilm)))))) (x_bw27 8 rfl rfl) (by decide +kernel) ⟨Nat.le_of_ble_eq_true rfl, Nat.le_of_ble_eq_true rfl⟩) (x_cons (x_cokO (ci := 1) (x := ⟨"TwinFires$Stone", "stands", "(IZ)I"⟩) (b0 := prog_8_method_2_code) (m0 := 3) (r0 := some .int) X xm35 rfl rfl (x_bw29 3 rfl rfl) (x_cons (x_bw32 10 rfl rfl) (x_cons (x_bw27 5 rfl rfl) (x_cons (x_bw27 3 rfl rfl) (x_cons (x_bw27 6 rfl rfl) (x_cons (x_bw27 7 rfl rfl) (x_cons (x_bw0 10 rfl rfl) x_nilm)))))) (x_bw27 8 rfl rfl) (by decide +kernel) ⟨Nat.le_of_ble_eq_true rfl, Nat.le_of_ble_eq_true rfl⟩) (x_cons (x_cokO (ci := 8) (x := ⟨"TwinFires$Stone", "stands", "(IZ)I"⟩) (b0 := prog_8_method_2_code) (m0 := 3) (r0 := some .int) X xm36 rfl rfl (x_bw29 3 rfl rfl) (x_cons (x_bw32 10 rfl rfl) (x_cons (x_bw27 5 rfl rfl) (x_cons (x_bw27 3 rfl rfl) (x_cons (x_bw28 9 rfl rfl) (x_cons (x_bw28 10 rfl rfl) (x_cons (x_bw0 13 rfl rfl) x_nilm)))))) (x_bw28 11 rfl rfl) (by decide +kernel) ⟨Nat.le_of_ble_eq_true rfl, Nat.le_of_ble_eq_true rfl⟩) (x_cons (x_cokO (ci := 9) (x := ⟨"TwinFires$Stone", "stands", "(IZ)I"⟩) (b0 := prog_8_method_2_code) (m0 := 3) (r0 := some .int) X xm37 rfl rfl (x_bw29 3 rfl rfl) (x_cons (x_bw32 10 rfl rfl) (x_cons (x_bw27 5 rfl rfl) (x_cons (x_bw27 3 rfl rfl) (x_cons (x_bw28 15 rfl rfl) (x_cons (x_bw29 0 rfl rfl) (x_cons (x_bw0 14 rfl rfl) x_nilm)))))) (x_bw29 1 rfl rfl) (by decide +kernel) ⟨Nat.le_of_ble_eq_true rfl, Nat.le_of_ble_eq_true rfl⟩) x_nilm)))))))), x_nilm, x_nilm, x_nilm⟩
set_option maxRecDepth 1000000 in
theorem xm48 : x_Met vwCl x_G x_Zs x_Tb x_Nb xM48 := x_main xT48 [(3, ([(0, xR false [6]), (1, xR false [2]), (2, xF), (3, xI 0 99), (4, xI 0 8)], [], []), (4, true), [], false, 0, [])] [] 2500 (by decide +kernel) (by decide +kernel) xk48 (by decide +kernel)
/-- TwinFires$Eyes.gather(LTwinFires$Land;I)V -/
def xM49 : xM := (⟨"TwinFires$Eyes", "gather", "(LTwinFires$Land;I)V"⟩, prog_2_method_2_code, 6, none, [xR false [6], xR false [2], xF], [([xR false [6], xR false [2], xF], none)], [(10, 0), (10, 1), (10, 2), (10, 3), (10, 4), (10, 5), (10, 6), (10, 7), (33, 0), (34, 0)], (4, 93, 0, 0), none)
def xT49 : xTab := ([(12, 6, 0), (22, 6, 2), (25, 6, 3), (28, 2, 0)], [], [], [], [], [], [], [(0, 34, 4, some 10, xM41), (0, 38, 4, some 6, xM47), (0, 42, 4, some 6, xM48)], [], [], [])
set_option maxRecDepth 100000 in
set_option maxHeartbeats 4000000 in
theorem xk49 : x_TOK vwCl x_G x_Zs x_Tb x_Nb xM49 xT49 := by
  intro p l e s m args below meth c D U hx hb hml hts hown hK hK0 hU hnm hN
  have X : x_cx p s m args c D U xM49.2.1 xM49.2.2.1 vwCl x_Tb x_Nb xM49.1.cls := ⟨hx, hb, hml, hown, hts, hK, hK0, hU, hN, x_Tb_good, x_Nb_ok⟩
  exact ⟨(x_cons (fl79 hts) (x_cons (fl84 hts) (x_cons (fl85 hts) (x_cons (fl80 hts) x_nilm)))), x_nilm, x_nilm, x_nilm, x_nilm, x_nilm, x_nilm, (x_cons (x_cokV (ci := 3) X xm41 rfl rfl rfl (x_cons (x_bw30 4 rfl rfl) (x_cons (x_bw30 5 rfl rfl) (x_cons (x_bw30 6 rfl rfl) (x_cons (x_bw0 7 rfl rfl) x_nilm)))) (x_bw30 7 rfl rfl) (by decide +kernel) ⟨Nat.le_of_ble_eq_true rfl, Nat.le_of_ble_eq_true rfl⟩) (x_cons (x_cokV (ci := 0) X xm47 rfl rfl rfl (x_cons (x_bw30 14 rfl rfl) (x_cons (x_bw31 0 rfl rfl) (x_cons (x_at 4 (by decide +kernel) rfl) (x_cons (x_bw0 6 rfl rfl) x_nilm)))) (x_bw31 1 rfl rfl) (by decide +kernel) ⟨Nat.le_of_ble_eq_true rfl, Nat.le_of_ble_eq_true rfl⟩) (x_cons (x_cokV (ci := 0) X xm48 rfl rfl rfl (x_cons (x_bw32 6 rfl rfl) (x_cons (x_bw32 8 rfl rfl) (x_cons (x_at 6 (by decide +kernel) rfl) (x_cons (x_bw0 6 rfl rfl) x_nilm)))) (x_bw32 9 rfl rfl) (by decide +kernel) ⟨Nat.le_of_ble_eq_true rfl, Nat.le_of_ble_eq_true rfl⟩) x_nilm))), x_nilm, x_nilm, x_nilm⟩
set_option maxRecDepth 1000000 in
theorem xm49 : x_Met vwCl x_G x_Zs x_Tb x_Nb xM49 := x_main xT49 [(2, ([(0, xR false [6]), (1, xR false [2]), (2, xF), (3, xI 0 10)], [], []), (3, true), [], false, 0, []), (15, ([(0, xR false [6]), (1, xR false [2]), (2, xF), (3, xI 0 9), (4, xI 1 10)], [], [(1, 2, 0, xI 1 10)]), (4, true), [3], false, 1, [])] [] 2500 (by decide +kernel) (by decide +kernel) xk49 (by decide +kernel)
/-- java/util/Arrays.fill([II)V -/
def xM50 : xM := (⟨"java/util/Arrays", "fill", "([II)V"⟩, prog_21_method_103_code, 4, none, [xR false [32], xI 0 0], [([xR false [32], xI 0 0], none)], [(32, 0)], (0, 0, 0, 0), none)
def xT50 : xTab := ([], [], [], [], [], [], [], [], [], [], [])
set_option maxRecDepth 100000 in
set_option maxHeartbeats 4000000 in
theorem xk50 : x_TOK vwCl x_G x_Zs x_Tb x_Nb xM50 xT50 := by
  intro p l e s m args below meth c D U hx hb hml hts hown hK hK0 hU hnm hN
  have X : x_cx p s m args c D U xM50.2.1 xM50.2.2.1 vwCl x_Tb x_Nb xM50.1.cls := ⟨hx, hb, hml, hown, hts, hK, hK0, hU, hN, x_Tb_good, x_Nb_ok⟩
  exact ⟨x_nilm, x_nilm, x_nilm, x_nilm, x_nilm, x_nilm, x_nilm, x_nilm, x_nilm, x_nilm, x_nilm⟩
set_option maxRecDepth 1000000 in
theorem xm50 : x_Met vwCl x_G x_Zs x_Tb x_Nb xM50 := x_main xT50 [(5, ([(0, xR false [32]), (1, xI 0 0), (2, xI 0 10), (3, xI 10 10)], [], []), (2, true), [], false, 0, [])] [] 2500 (by decide +kernel) (by decide +kernel) xk50 (by decide +kernel)
/-- TwinFires$Eyes.veil(LTwinFires$Land;II)V -/
def xM51 : xM := (⟨"TwinFires$Eyes", "veil", "(LTwinFires$Land;II)V"⟩, prog_2_method_5_code, 8, none, [xR false [6], xR false [2], xF, xF], [([xR false [6], xR false [2], xF, xF], none)], [(32, 0)], (1, 23, 0, 0), none)
def xT51 : xTab := ([(18, 6, 1), (22, 6, 2), (25, 6, 3), (28, 2, 0), (55, 2, 3)], [], [], [], [], [], [], [(1, 82, 2, none, xM50)], [], [], [])
set_option maxRecDepth 100000 in
set_option maxHeartbeats 4000000 in
theorem xk51 : x_TOK vwCl x_G x_Zs x_Tb x_Nb xM51 xT51 := by
  intro p l e s m args below meth c D U hx hb hml hts hown hK hK0 hU hnm hN
  have X : x_cx p s m args c D U xM51.2.1 xM51.2.2.1 vwCl x_Tb x_Nb xM51.1.cls := ⟨hx, hb, hml, hown, hts, hK, hK0, hU, hN, x_Tb_good, x_Nb_ok⟩
  exact ⟨(x_cons (fl101 hts) (x_cons (fl84 hts) (x_cons (fl85 hts) (x_cons (fl80 hts) (x_cons (fl83 hts) x_nilm))))), x_nilm, x_nilm, x_nilm, x_nilm, x_nilm, x_nilm, (x_cons (x_cokS X xm50 (x_cons (x_bw32 15 rfl rfl) (x_cons (x_bw2 7 rfl rfl) (x_cons (x_bw0 3 rfl rfl) x_nilm))) (x_bw2 8 rfl rfl) (by decide +kernel) ⟨Nat.le_of_ble_eq_true rfl, Nat.le_of_ble_eq_true rfl⟩) x_nilm), x_nilm, x_nilm, x_nilm⟩
set_option maxRecDepth 1000000 in
theorem xm51 : x_Met vwCl x_G x_Zs x_Tb x_Nb xM51 := x_main xT51 [(11, ([(0, xR false [6]), (1, xR false [2]), (2, xF), (3, xF), (4, xI 0 10)], [], [(0, 0, 1, xR false [32])]), (4, true), [], false, 0, []), (26, ([(0, xR false [6]), (1, xR false [2]), (2, xF), (3, xF), (4, xI 0 9), (5, xI 1 10)], [], [(1, 2, 0, xI 1 10), (0, 0, 1, xR false [32])]), (5, true), [4], false, 1, [])] [] 2500 (by decide +kernel) (by decide +kernel) xk51 (by decide +kernel)
/-- TwinFires.lookNow()V -/
def xM52 : xM := (⟨"TwinFires", "lookNow", "()V"⟩, prog_1_method_48_code, 1, none, [xR false [0]], [([xR false [0]], none)], [(10, 0), (10, 1), (10, 2), (10, 3), (10, 4), (10, 5), (10, 6), (10, 7), (32, 0), (33, 0), (34, 0)], (5, 118, 0, 0), none)
def xT52 : xTab := ([(12, 0, 0), (33, 0, 4), (95, 2, 10)], [], [], [], [], [], [], [(0, 200, 3, some 6, xM49), (0, 204, 4, some 6, xM51)], [], [], [])
set_option maxRecDepth 100000 in
set_option maxHeartbeats 4000000 in
theorem xk52 : x_TOK vwCl x_G x_Zs x_Tb x_Nb xM52 xT52 := by
  intro p l e s m args below meth c D U hx hb hml hts hown hK hK0 hU hnm hN
  have X : x_cx p s m args c D U xM52.2.1 xM52.2.2.1 vwCl x_Tb x_Nb xM52.1.cls := ⟨hx, hb, hml, hown, hts, hK, hK0, hU, hN, x_Tb_good, x_Nb_ok⟩
  exact ⟨(x_cons (fl8 hts) (x_cons (fl102 hts) (x_cons (fl58 hts) x_nilm))), x_nilm, x_nilm, x_nilm, x_nilm, x_nilm, x_nilm, (x_cons (x_cokV (ci := 0) X xm49 rfl rfl rfl (x_cons (x_bw30 0 rfl rfl) (x_cons (x_bw30 1 rfl rfl) (x_cons (x_bw30 2 rfl rfl) (x_cons (x_bw0 6 rfl rfl) x_nilm)))) (x_bw30 3 rfl rfl) (by decide +kernel) ⟨Nat.le_of_ble_eq_true rfl, Nat.le_of_ble_eq_true rfl⟩) (x_cons (x_cokV (ci := 0) X xm51 rfl rfl rfl (x_cons (x_bw32 11 rfl rfl) (x_cons (x_bw32 12 rfl rfl) (x_cons (x_bw32 13 rfl rfl) (x_cons (x_bw0 6 rfl rfl) x_nilm)))) (x_bw32 14 rfl rfl) (by decide +kernel) ⟨Nat.le_of_ble_eq_true rfl, Nat.le_of_ble_eq_true rfl⟩) x_nilm)), x_nilm, x_nilm, x_nilm⟩
set_option maxRecDepth 1000000 in
theorem xm52 : x_Met vwCl x_G x_Zs x_Tb x_Nb xM52 := x_main xT52 [] [] 2500 (by decide +kernel) (by decide +kernel) xk52 (by decide +kernel)
/-- TwinFires.sight(II)I -/
def xM53 : xM := (⟨"TwinFires", "sight", "(II)I"⟩, prog_1_method_8_code, 3, some .int, [xR false [0], xF, xF], [([xR false [0], xF, xF], some (xF))], [(10, 0), (10, 1), (10, 2), (10, 3), (10, 4), (10, 5), (10, 6), (10, 7), (32, 0), (33, 0), (34, 0), (42, 0)], (6, 138, 0, 0), none)
def xT53 : xTab := ([(12, 0, 0), (33, 0, 4), (107, 6, 1)], [], [], [], [], [], [], [(0, 59, 2, some 0, xM8), (0, 101, 2, some 2, xM40), (0, 104, 1, some 0, xM52)], [], [], [])
set_option maxRecDepth 100000 in
set_option maxHeartbeats 4000000 in
theorem xk53 : x_TOK vwCl x_G x_Zs x_Tb x_Nb xM53 xT53 := by
  intro p l e s m args below meth c D U hx hb hml hts hown hK hK0 hU hnm hN
  have X : x_cx p s m args c D U xM53.2.1 xM53.2.2.1 vwCl x_Tb x_Nb xM53.1.cls := ⟨hx, hb, hml, hown, hts, hK, hK0, hU, hN, x_Tb_good, x_Nb_ok⟩
  exact ⟨(x_cons (fl8 hts) (x_cons (fl102 hts) (x_cons (fl103 hts) x_nilm))), x_nilm, x_nilm, x_nilm, x_nilm, x_nilm, x_nilm, (x_cons (x_cokV (ci := 11) X xm8 rfl rfl rfl (x_cons (x_bw19 7 rfl rfl) (x_cons (x_bw19 9 rfl rfl) (x_cons (x_at 1 (by decide +kernel) rfl) (x_cons (x_bw0 1 rfl rfl) x_nilm)))) (x_bw19 10 rfl rfl) (by decide +kernel) ⟨Nat.le_of_ble_eq_true rfl, Nat.le_of_ble_eq_true rfl⟩) (x_cons (x_cokV (ci := 2) X xm40 rfl rfl rfl (x_cons (x_bw29 8 rfl rfl) (x_cons (x_bw29 9 rfl rfl) (x_cons (x_bw29 10 rfl rfl) (x_cons (x_bw0 2 rfl rfl) x_nilm)))) (x_bw29 11 rfl rfl) (by decide +kernel) ⟨Nat.le_of_ble_eq_true rfl, Nat.le_of_ble_eq_true rfl⟩) (x_cons (x_cokV (ci := 11) X xm52 rfl rfl rfl (x_cons (x_bw29 12 rfl rfl) (x_cons (x_bw29 14 rfl rfl) (x_cons (x_at 3 (by decide +kernel) rfl) (x_cons (x_bw0 1 rfl rfl) x_nilm)))) (x_bw29 15 rfl rfl) (by decide +kernel) ⟨Nat.le_of_ble_eq_true rfl, Nat.le_of_ble_eq_true rfl⟩) x_nilm))), x_nilm, x_nilm, x_nilm⟩
set_option maxRecDepth 1000000 in
theorem xm53 : x_Met vwCl x_G x_Zs x_Tb x_Nb xM53 := x_main xT53 [] [] 2500 (by decide +kernel) (by decide +kernel) xk53 (by decide +kernel)
/-- TwinFires.setFraction(JJ)V -/
def xM54 : xM := (⟨"TwinFires", "setFraction", "(JJ)V"⟩, prog_1_method_57_code, 12, none, [xR false [0], xFL, xFL], [([xR false [0], xFL, xFL], none)], [(0, 7), (0, 8)], (1, 22, 0, 0), none)
def xT54 : xTab := ([], [(48, 0, 7), (52, 0, 8)], [], [], [], [], [], [(1, 333, 1, none, (xMm1L Lib.MathLoose.abs_long.x prog_16_method_61_code))], [], [], [])
set_option maxRecDepth 100000 in
set_option maxHeartbeats 4000000 in
theorem xk54 : x_TOK vwCl x_G x_Zs x_Tb x_Nb xM54 xT54 := by
  intro p l e s m args below meth c D U hx hb hml hts hown hK hK0 hU hnm hN
  have X : x_cx p s m args c D U xM54.2.1 xM54.2.2.1 vwCl x_Tb x_Nb xM54.1.cls := ⟨hx, hb, hml, hown, hts, hK, hK0, hU, hN, x_Tb_good, x_Nb_ok⟩
  exact ⟨x_nilm, (x_cons (fw104 hts) (x_cons (fw105 hts) x_nilm)), x_nilm, x_nilm, x_nilm, x_nilm, x_nilm, (x_cons (x_cokAbsL X (by decide +kernel) (x_cons (x_bw33 11 rfl rfl) (x_cons (x_bw33 12 rfl rfl) (x_cons (x_bw0 15 rfl rfl) (x_cons (x_bw33 13 rfl rfl) x_nilm)))) ⟨Nat.le_of_ble_eq_true rfl, Nat.le_of_ble_eq_true rfl⟩) x_nilm), x_nilm, x_nilm, x_nilm⟩
set_option maxRecDepth 1000000 in
theorem xm54 : x_Met vwCl x_G x_Zs x_Tb x_Nb xM54 := x_main xT54 [(12, ([(0, xR false [0]), (1, xFL), (3, xFL), (5, xFL), (7, xFL), (9, xI 0 200)], [], []), (5, true), [], false, 0, [])] [] 2500 (by decide +kernel) (by decide +kernel) xk54 (by decide +kernel)
/-- TwinFires.clear(III)I -/
def xM55 : xM := (⟨"TwinFires", "clear", "(III)I"⟩, prog_1_method_9_code, 6, some .int, [xR false [0], xF, xF, xF], [([xR false [0], xF, xF, xF], some (xF))], [(0, 7), (0, 8), (10, 0), (10, 1), (10, 2), (10, 3), (10, 4), (10, 5), (10, 6), (10, 7), (42, 0)], (4, 88, 0, 0), none)
def xT55 : xTab := ([(12, 0, 0), (33, 0, 4), (75, 2, 7), (95, 2, 10), (110, 6, 0), (120, 11, 1), (120, 12, 1), (120, 13, 1), (120, 14, 1), (120, 15, 1), (120, 16, 1), (124, 11, 2), (124, 12, 2), (124, 13, 2), (124, 14, 2), (124, 15, 2), (124, 16, 2), (134, 10, 7)], [], [], [], [], [], [], [(0, 59, 2, some 0, xM8), (0, 71, 2, some 2, xM25), (0, 98, 3, some 2, xM38), (0, 101, 2, some 2, xM40), (0, 114, 4, some 10, xM41), (0, 127, 3, some 10, xM43), (0, 131, 4, some 10, xM45), (0, 137, 3, some 0, xM54)], [], [], [])
set_option maxRecDepth 100000 in
set_option maxHeartbeats 4000000 in
theorem xk55 : x_TOK vwCl x_G x_Zs x_Tb x_Nb xM55 xT55 := by
  intro p l e s m args below meth c D U hx hb hml hts hown hK hK0 hU hnm hN
  have X : x_cx p s m args c D U xM55.2.1 xM55.2.2.1 vwCl x_Tb x_Nb xM55.1.cls := ⟨hx, hb, hml, hown, hts, hK, hK0, hU, hN, x_Tb_good, x_Nb_ok⟩
  exact ⟨(x_cons (fl8 hts) (x_cons (fl102 hts) (x_cons (fl45 hts) (x_cons (fl58 hts) (x_cons (fl106 hts) (x_cons (fl107 hts) (x_cons (fl108 hts) (x_cons (fl109 hts) (x_cons (fl110 hts) (x_cons (fl111 hts) (x_cons (fl112 hts) (x_cons (fl113 hts) (x_cons (fl114 hts) (x_cons (fl115 hts) (x_cons (fl116 hts) (x_cons (fl117 hts) (x_cons (fl118 hts) (x_cons (fl119 hts) x_nilm)))))))))))))))))), x_nilm, x_nilm, x_nilm, x_nilm, x_nilm, x_nilm, (x_cons (x_cokV (ci := 11) X xm8 rfl rfl rfl (x_cons (x_bw19 7 rfl rfl) (x_cons (x_bw19 9 rfl rfl) (x_cons (x_at 1 (by decide +kernel) rfl) (x_cons (x_bw0 1 rfl rfl) x_nilm)))) (x_bw19 10 rfl rfl) (by decide +kernel) ⟨Nat.le_of_ble_eq_true rfl, Nat.le_of_ble_eq_true rfl⟩) (x_cons (x_cokV (ci := 2) X xm25 rfl rfl rfl (x_cons (x_bw25 4 rfl rfl) (x_cons (x_bw25 5 rfl rfl) (x_cons (x_bw25 6 rfl rfl) (x_cons (x_bw0 2 rfl rfl) x_nilm)))) (x_bw25 7 rfl rfl) (by decide +kernel) ⟨Nat.le_of_ble_eq_true rfl, Nat.le_of_ble_eq_true rfl⟩) (x_cons (x_cokV (ci := 2) X xm38 rfl rfl rfl (x_cons (x_bw26 14 rfl rfl) (x_cons (x_bw26 15 rfl rfl) (x_cons (x_bw27 0 rfl rfl) (x_cons (x_bw0 2 rfl rfl) x_nilm)))) (x_bw27 1 rfl rfl) (by decide +kernel) ⟨Nat.le_of_ble_eq_true rfl, Nat.le_of_ble_eq_true rfl⟩) (x_cons (x_cokV (ci := 2) X xm40 rfl rfl rfl (x_cons (x_bw29 8 rfl rfl) (x_cons (x_bw29 9 rfl rfl) (x_cons (x_bw29 10 rfl rfl) (x_cons (x_bw0 2 rfl rfl) x_nilm)))) (x_bw29 11 rfl rfl) (by decide +kernel) ⟨Nat.le_of_ble_eq_true rfl, Nat.le_of_ble_eq_true rfl⟩) (x_cons (x_cokV (ci := 3) X xm41 rfl rfl rfl (x_cons (x_bw33 4 rfl rfl) (x_cons (x_bw30 5 rfl rfl) (x_cons (x_bw30 6 rfl rfl) (x_cons (x_bw0 7 rfl rfl) x_nilm)))) (x_bw30 7 rfl rfl) (by decide +kernel) ⟨Nat.le_of_ble_eq_true rfl, Nat.le_of_ble_eq_true rfl⟩) (x_cons (x_cokV (ci := 3) X xm43 rfl rfl rfl (x_cons (x_bw33 5 rfl rfl) (x_cons (x_bw31 7 rfl rfl) (x_cons (x_bw31 8 rfl rfl) (x_cons (x_bw0 7 rfl rfl) x_nilm)))) (x_bw31 9 rfl rfl) (by decide +kernel) ⟨Nat.le_of_ble_eq_true rfl, Nat.le_of_ble_eq_true rfl⟩) (x_cons (x_cokV (ci := 3) X xm45 rfl rfl rfl (x_cons (x_bw33 6 rfl rfl) (x_cons (x_bw32 3 rfl rfl) (x_cons (x_bw32 4 rfl rfl) (x_cons (x_bw0 7 rfl rfl) x_nilm)))) (x_bw32 5 rfl rfl) (by decide +kernel) ⟨Nat.le_of_ble_eq_true rfl, Nat.le_of_ble_eq_true rfl⟩) (x_cons (x_cokV (ci := 11) X xm54 rfl rfl rfl (x_cons (x_bw33 7 rfl rfl) (x_cons (x_bw33 9 rfl rfl) (x_cons (x_at 7 (by decide +kernel) rfl) (x_cons (x_bw0 1 rfl rfl) x_nilm)))) (x_bw33 10 rfl rfl) (by decide +kernel) ⟨Nat.le_of_ble_eq_true rfl, Nat.le_of_ble_eq_true rfl⟩) x_nilm)))))))), x_nilm, x_nilm, x_nilm⟩
set_option maxRecDepth 1000000 in
theorem xm55 : x_Met vwCl x_G x_Zs x_Tb x_Nb xM55 := x_main xT55 [] [] 2500 (by decide +kernel) (by decide +kernel) xk55 (by decide +kernel)
/-- TwinFires.clearText()I -/
def xM57 : xM := (⟨"TwinFires", "clearText", "()I"⟩, prog_1_method_11_code, 2, some .int, [xR false [0]], [([xR false [0]], some (xI 0 240))], [(4, 2)], (0, 0, 0, 0), none)
/-- TwinFires$Land.copyFrom(LTwinFires$Land;)V -/
def xM58 : xM := (⟨"TwinFires$Land", "copyFrom", "(LTwinFires$Land;)V"⟩, prog_4_method_2_code, 3, none, [xR false [2], xR false [2]], [([xR false [2], xR false [2]], none)], [(2, 0), (2, 6), (2, 12), (19, 0), (20, 0), (21, 0), (22, 0), (23, 0), (24, 0), (25, 0), (26, 0), (27, 0), (28, 0), (29, 0), (30, 0), (31, 0)], (1, 26, 0, 0), none)
/-- TwinFires$Land.forget()V -/
def xM59 : xM := (⟨"TwinFires$Land", "forget", "()V"⟩, prog_4_method_3_code, 1, none, [xR false [2]], [([xR false [2]], none)], [(2, 0), (2, 6), (27, 0)], (0, 0, 0, 0), none)
/-- TwinFires$Text.rewind()V -/
def xM60 : xM := (⟨"TwinFires$Text", "rewind", "()V"⟩, prog_9_method_3_code, 1, none, [xR false [4]], [([xR false [4]], none)], [(4, 4)], (0, 0, 0, 0), none)
