/-- TwinFires.isWithin(III)Z -/
def xM1 : xM := (⟨"TwinFires", "isWithin", "(III)Z"⟩, prog_1_method_43_code, 3, some .boolean, [xF, xI 0 0, xI 19 19], [([xI 0 19, xI 0 0, xI 19 19], some (xI 1 1)), ([xF, xI 0 0, xI 19 19], some (xI 0 0))], [], (0, 0, 0, 0), none)
def xT1 : xTab := ([], [], [], [], [], [], [], [], [], [], [])
set_option maxRecDepth 100000 in
set_option maxHeartbeats 4000000 in
theorem xk1 : x_TOK vwCl x_G x_Zs x_Tb x_Nb xM1 xT1 := by
  intro p l e s m args below meth c D U hx hb hml hts hown hK hK0 hU hnm hN
  have X : x_cx p s m args c D U xM1.2.1 xM1.2.2.1 vwCl x_Tb x_Nb xM1.1.cls := ⟨hx, hb, hml, hown, hts, hK, hK0, hU, hN, x_Tb_good, x_Nb_ok⟩
  exact ⟨x_nilm, x_nilm, x_nilm, x_nilm, x_nilm, x_nilm, x_nilm, x_nilm, x_nilm, x_nilm⟩
set_option maxRecDepth 1000000 in
theorem xm1 : x_Met vwCl x_G x_Zs x_Tb x_Nb xM1 := x_main xT1 [] [] 2500 (by decide +kernel) (by decide +kernel) xk1 (by decide +kernel)
/-- TwinFires$Land.isPlace(II)Z -/
def xM2 : xM := (⟨"TwinFires$Land", "isPlace", "(II)Z"⟩, prog_4_method_8_code, 2, some .boolean, [xF, xF], [([xF, xF], some (xI 0 0)), ([xI 0 19, xI 0 19], some (xI 1 1))], [], (1, 22, 0, 0), none)
def xT2 : xTab := ([], [], [], [], [], [], [], [(1, 83, 3, none, xM1)], [], [], [])
set_option maxRecDepth 100000 in
set_option maxHeartbeats 4000000 in
theorem xk2 : x_TOK vwCl x_G x_Zs x_Tb x_Nb xM2 xT2 := by
  intro p l e s m args below meth c D U hx hb hml hts hown hK hK0 hU hnm hN
  have X : x_cx p s m args c D U xM2.2.1 xM2.2.2.1 vwCl x_Tb x_Nb xM2.1.cls := ⟨hx, hb, hml, hown, hts, hK, hK0, hU, hN, x_Tb_good, x_Nb_ok⟩
  exact ⟨x_nilm, x_nilm, x_nilm, x_nilm, x_nilm, x_nilm, x_nilm, (x_cons (x_cokSN (host := "TwinFires") X xm1 (x_cons (x_at 369 (by decide +kernel) rfl) (x_cons (x_at 65 (by decide +kernel) rfl) x_nilm)) (x_nt 368 (by decide +kernel) rfl) (x_at 370 (by decide +kernel) rfl) (by decide +kernel) ⟨Nat.le_of_ble_eq_true rfl, Nat.le_of_ble_eq_true rfl⟩) x_nilm), x_nilm, x_nilm⟩
set_option maxRecDepth 1000000 in
theorem xm2 : x_Met vwCl x_G x_Zs x_Tb x_Nb xM2 := x_main xT2 [] [] 2500 (by decide +kernel) (by decide +kernel) xk2 (by decide +kernel)
/-- TwinFires.isWithin(III)Z -/
def xM3 : xM := (⟨"TwinFires", "isWithin", "(III)Z"⟩, prog_1_method_43_code, 3, some .boolean, [xF, xI 0 0, xI 99 99], [([xI 0 99, xI 0 0, xI 99 99], some (xI 1 1)), ([xF, xI 0 0, xI 99 99], some (xI 0 0))], [], (0, 0, 0, 0), none)
def xT3 : xTab := ([], [], [], [], [], [], [], [], [], [], [])
set_option maxRecDepth 100000 in
set_option maxHeartbeats 4000000 in
theorem xk3 : x_TOK vwCl x_G x_Zs x_Tb x_Nb xM3 xT3 := by
  intro p l e s m args below meth c D U hx hb hml hts hown hK hK0 hU hnm hN
  have X : x_cx p s m args c D U xM3.2.1 xM3.2.2.1 vwCl x_Tb x_Nb xM3.1.cls := ⟨hx, hb, hml, hown, hts, hK, hK0, hU, hN, x_Tb_good, x_Nb_ok⟩
  exact ⟨x_nilm, x_nilm, x_nilm, x_nilm, x_nilm, x_nilm, x_nilm, x_nilm, x_nilm, x_nilm⟩
set_option maxRecDepth 1000000 in
theorem xm3 : x_Met vwCl x_G x_Zs x_Tb x_Nb xM3 := x_main xT3 [] [] 2500 (by decide +kernel) (by decide +kernel) xk3 (by decide +kernel)
/-- TwinFires$Land.isTaken(II)Z -/
def xM4 : xM := (⟨"TwinFires$Land", "isTaken", "(II)Z"⟩, prog_4_method_9_code, 4, some .boolean, [xR false [2], xF, xF], [([xR false [2], xF, xF], some (xI 1 1)), ([xR false [2], xF, xF], some (xI 0 0))], [], (0, 0, 0, 0), none)
def xT4 : xTab := ([(9, 2, 1), (15, 2, 2), (63, 2, 0)], [], [], [], [], [], [], [], [], [], [])
set_option maxRecDepth 100000 in
set_option maxHeartbeats 4000000 in
theorem xk4 : x_TOK vwCl x_G x_Zs x_Tb x_Nb xM4 xT4 := by
  intro p l e s m args below meth c D U hx hb hml hts hown hK hK0 hU hnm hN
  have X : x_cx p s m args c D U xM4.2.1 xM4.2.2.1 vwCl x_Tb x_Nb xM4.1.cls := ⟨hx, hb, hml, hown, hts, hK, hK0, hU, hN, x_Tb_good, x_Nb_ok⟩
  exact ⟨(x_cons (fl0 hts) (x_cons (fl1 hts) (x_cons (fl2 hts) x_nilm))), x_nilm, x_nilm, x_nilm, x_nilm, x_nilm, x_nilm, x_nilm, x_nilm, x_nilm⟩
set_option maxRecDepth 1000000 in
theorem xm4 : x_Met vwCl x_G x_Zs x_Tb x_Nb xM4 := x_main xT4 [(2, ([(0, xR false [2]), (1, xF), (2, xF), (3, xI 0 10)], [], []), (3, true), [], false, 0, [])] [] 2500 (by decide +kernel) (by decide +kernel) xk4 (by decide +kernel)
/-- TwinFires$Land.addHill(III)I -/
def xM5 : xM := (⟨"TwinFires$Land", "addHill", "(III)I"⟩, prog_4_method_7_code, 4, some .int, [xR false [2], xF, xF, xF], [([xR false [2], xF, xF, xF], some (xI (-4) 9))], [(2, 0), (19, 0), (20, 0), (21, 0), (22, 0), (23, 0)], (2, 43, 0, 0), none)
def xT5 : xTab := ([(9, 2, 1), (15, 2, 2), (18, 2, 3), (21, 2, 4), (24, 2, 5), (63, 2, 0)], [(63, 2, 0)], [], [], [], [], [], [(1, 79, 2, none, xM2), (1, 83, 3, none, xM3), (0, 87, 3, some 2, xM4)], [], [], [])
set_option maxRecDepth 100000 in
set_option maxHeartbeats 4000000 in
theorem xk5 : x_TOK vwCl x_G x_Zs x_Tb x_Nb xM5 xT5 := by
  intro p l e s m args below meth c D U hx hb hml hts hown hK hK0 hU hnm hN
  have X : x_cx p s m args c D U xM5.2.1 xM5.2.2.1 vwCl x_Tb x_Nb xM5.1.cls := ⟨hx, hb, hml, hown, hts, hK, hK0, hU, hN, x_Tb_good, x_Nb_ok⟩
  exact ⟨(x_cons (fl0 hts) (x_cons (fl1 hts) (x_cons (fl3 hts) (x_cons (fl4 hts) (x_cons (fl5 hts) (x_cons (fl2 hts) x_nilm)))))), (x_cons (fw6 hts) x_nilm), x_nilm, x_nilm, x_nilm, x_nilm, x_nilm, (x_cons (x_cokS X xm2 (x_cons (x_at 365 (by decide +kernel) rfl) (x_cons (x_at 366 (by decide +kernel) rfl) (x_cons (x_at 66 (by decide +kernel) rfl) x_nilm))) (x_at 367 (by decide +kernel) rfl) (by decide +kernel) ⟨Nat.le_of_ble_eq_true rfl, Nat.le_of_ble_eq_true rfl⟩) (x_cons (x_cokSN (host := "TwinFires") X xm3 (x_cons (x_at 369 (by decide +kernel) rfl) (x_cons (x_at 65 (by decide +kernel) rfl) x_nilm)) (x_nt 368 (by decide +kernel) rfl) (x_at 370 (by decide +kernel) rfl) (by decide +kernel) ⟨Nat.le_of_ble_eq_true rfl, Nat.le_of_ble_eq_true rfl⟩) (x_cons (x_cokV (ci := 2) X xm4 rfl rfl rfl (x_cons (x_at 371 (by decide +kernel) rfl) (x_cons (x_at 373 (by decide +kernel) rfl) (x_cons (x_at 0 (by decide +kernel) rfl) (x_cons (x_at 66 (by decide +kernel) rfl) x_nilm)))) (x_at 374 (by decide +kernel) rfl) (by decide +kernel) ⟨Nat.le_of_ble_eq_true rfl, Nat.le_of_ble_eq_true rfl⟩) x_nilm))), x_nilm, x_nilm⟩
set_option maxRecDepth 1000000 in
theorem xm5 : x_Met vwCl x_G x_Zs x_Tb x_Nb xM5 := x_main xT5 [] [] 2500 (by decide +kernel) (by decide +kernel) xk5 (by decide +kernel)
/-- TwinFires.isWithin(III)Z -/
def xM6 : xM := (⟨"TwinFires", "isWithin", "(III)Z"⟩, prog_1_method_43_code, 3, some .boolean, [xF, xI 0 0, xI 2 2], [([xI 0 2, xI 0 0, xI 2 2], some (xI 1 1)), ([xF, xI 0 0, xI 2 2], some (xI 0 0))], [], (0, 0, 0, 0), none)
def xT6 : xTab := ([], [], [], [], [], [], [], [], [], [], [])
set_option maxRecDepth 100000 in
set_option maxHeartbeats 4000000 in
theorem xk6 : x_TOK vwCl x_G x_Zs x_Tb x_Nb xM6 xT6 := by
  intro p l e s m args below meth c D U hx hb hml hts hown hK hK0 hU hnm hN
  have X : x_cx p s m args c D U xM6.2.1 xM6.2.2.1 vwCl x_Tb x_Nb xM6.1.cls := ⟨hx, hb, hml, hown, hts, hK, hK0, hU, hN, x_Tb_good, x_Nb_ok⟩
  exact ⟨x_nilm, x_nilm, x_nilm, x_nilm, x_nilm, x_nilm, x_nilm, x_nilm, x_nilm, x_nilm⟩
set_option maxRecDepth 1000000 in
theorem xm6 : x_Met vwCl x_G x_Zs x_Tb x_Nb xM6 := x_main xT6 [] [] 2500 (by decide +kernel) (by decide +kernel) xk6 (by decide +kernel)
/-- TwinFires.countedAs(II)I -/
def xM7 : xM := (⟨"TwinFires", "countedAs", "(II)I"⟩, prog_1_method_47_code, 4, some .int, [xR false [0], xF, xF], [([xR false [0], xF, xF], some (xF))], [(42, 0)], (1, 22, 0, 0), none)
def xT7 : xTab := ([(44, 0, 6)], [], [], [], [], [], [], [(1, 88, 3, none, xM6)], [], [], [])
set_option maxRecDepth 100000 in
set_option maxHeartbeats 4000000 in
theorem xk7 : x_TOK vwCl x_G x_Zs x_Tb x_Nb xM7 xT7 := by
  intro p l e s m args below meth c D U hx hb hml hts hown hK hK0 hU hnm hN
  have X : x_cx p s m args c D U xM7.2.1 xM7.2.2.1 vwCl x_Tb x_Nb xM7.1.cls := ⟨hx, hb, hml, hown, hts, hK, hK0, hU, hN, x_Tb_good, x_Nb_ok⟩
  exact ⟨(x_cons (fl7 hts) x_nilm), x_nilm, x_nilm, x_nilm, x_nilm, x_nilm, x_nilm, (x_cons (x_cokS X xm6 (x_cons (x_at 383 (by decide +kernel) rfl) (x_cons (x_at 369 (by decide +kernel) rfl) (x_cons (x_at 65 (by decide +kernel) rfl) x_nilm))) (x_at 370 (by decide +kernel) rfl) (by decide +kernel) ⟨Nat.le_of_ble_eq_true rfl, Nat.le_of_ble_eq_true rfl⟩) x_nilm), x_nilm, x_nilm⟩
set_option maxRecDepth 1000000 in
theorem xm7 : x_Met vwCl x_G x_Zs x_Tb x_Nb xM7 := x_main xT7 [] [] 2500 (by decide +kernel) (by decide +kernel) xk7 (by decide +kernel)
/-- TwinFires.counted(I)I -/
def xM8 : xM := (⟨"TwinFires", "counted", "(I)I"⟩, prog_1_method_46_code, 2, some .int, [xR false [0], xF], [([xR false [0], xF], some (xF))], [(42, 0)], (2, 45, 0, 0), none)
def xT8 : xTab := ([], [], [], [], [], [], [], [(0, 221, 3, some 0, xM7)], [], [], [])
set_option maxRecDepth 100000 in
set_option maxHeartbeats 4000000 in
theorem xk8 : x_TOK vwCl x_G x_Zs x_Tb x_Nb xM8 xT8 := by
  intro p l e s m args below meth c D U hx hb hml hts hown hK hK0 hU hnm hN
  have X : x_cx p s m args c D U xM8.2.1 xM8.2.2.1 vwCl x_Tb x_Nb xM8.1.cls := ⟨hx, hb, hml, hown, hts, hK, hK0, hU, hN, x_Tb_good, x_Nb_ok⟩
  exact ⟨x_nilm, x_nilm, x_nilm, x_nilm, x_nilm, x_nilm, x_nilm, (x_cons (x_cokV (ci := 11) X xm7 rfl rfl rfl (x_cons (x_at 379 (by decide +kernel) rfl) (x_cons (x_at 381 (by decide +kernel) rfl) (x_cons (x_at 2 (by decide +kernel) rfl) (x_cons (x_at 65 (by decide +kernel) rfl) x_nilm)))) (x_at 382 (by decide +kernel) rfl) (by decide +kernel) ⟨Nat.le_of_ble_eq_true rfl, Nat.le_of_ble_eq_true rfl⟩) x_nilm), x_nilm, x_nilm⟩
set_option maxRecDepth 1000000 in
theorem xm8 : x_Met vwCl x_G x_Zs x_Tb x_Nb xM8 := x_main xT8 [] [] 2500 (by decide +kernel) (by decide +kernel) xk8 (by decide +kernel)
/-- TwinFires.hill(III)I -/
def xM9 : xM := (⟨"TwinFires", "hill", "(III)I"⟩, prog_1_method_2_code, 4, some .int, [xR false [0], xF, xF, xF], [([xR false [0], xF, xF, xF], some (xF))], [(2, 0), (19, 0), (20, 0), (21, 0), (22, 0), (23, 0), (42, 0)], (3, 66, 0, 0), none)
def xT9 : xTab := ([(12, 0, 0)], [], [], [], [], [], [], [(0, 55, 4, some 2, xM5), (0, 59, 2, some 0, xM8)], [], [], [])
set_option maxRecDepth 100000 in
set_option maxHeartbeats 4000000 in
theorem xk9 : x_TOK vwCl x_G x_Zs x_Tb x_Nb xM9 xT9 := by
  intro p l e s m args below meth c D U hx hb hml hts hown hK hK0 hU hnm hN
  have X : x_cx p s m args c D U xM9.2.1 xM9.2.2.1 vwCl x_Tb x_Nb xM9.1.cls := ⟨hx, hb, hml, hown, hts, hK, hK0, hU, hN, x_Tb_good, x_Nb_ok⟩
  exact ⟨(x_cons (fl8 hts) x_nilm), x_nilm, x_nilm, x_nilm, x_nilm, x_nilm, x_nilm, (x_cons (x_cokV (ci := 2) X xm5 rfl rfl rfl (x_cons (x_at 361 (by decide +kernel) rfl) (x_cons (x_at 362 (by decide +kernel) rfl) (x_cons (x_at 363 (by decide +kernel) rfl) (x_cons (x_at 66 (by decide +kernel) rfl) x_nilm)))) (x_at 364 (by decide +kernel) rfl) (by decide +kernel) ⟨Nat.le_of_ble_eq_true rfl, Nat.le_of_ble_eq_true rfl⟩) (x_cons (x_cokV (ci := 11) X xm8 rfl rfl rfl (x_cons (x_at 375 (by decide +kernel) rfl) (x_cons (x_at 377 (by decide +kernel) rfl) (x_cons (x_at 1 (by decide +kernel) rfl) (x_cons (x_at 65 (by decide +kernel) rfl) x_nilm)))) (x_at 378 (by decide +kernel) rfl) (by decide +kernel) ⟨Nat.le_of_ble_eq_true rfl, Nat.le_of_ble_eq_true rfl⟩) x_nilm)), x_nilm, x_nilm⟩
set_option maxRecDepth 1000000 in
theorem xm9 : x_Met vwCl x_G x_Zs x_Tb x_Nb xM9 := x_main xT9 [] [] 2500 (by decide +kernel) (by decide +kernel) xk9 (by decide +kernel)
/-- TwinFires.isWithin(III)Z -/
def xM10 : xM := (⟨"TwinFires", "isWithin", "(III)Z"⟩, prog_1_method_43_code, 3, some .boolean, [xF, xF, xF], [([xF, xF, xF], some (xI 1 1)), ([xF, xF, xF], some (xI 0 0))], [], (0, 0, 0, 0), none)
def xT10 : xTab := ([], [], [], [], [], [], [], [], [], [], [])
set_option maxRecDepth 100000 in
set_option maxHeartbeats 4000000 in
theorem xk10 : x_TOK vwCl x_G x_Zs x_Tb x_Nb xM10 xT10 := by
  intro p l e s m args below meth c D U hx hb hml hts hown hK hK0 hU hnm hN
  have X : x_cx p s m args c D U xM10.2.1 xM10.2.2.1 vwCl x_Tb x_Nb xM10.1.cls := ⟨hx, hb, hml, hown, hts, hK, hK0, hU, hN, x_Tb_good, x_Nb_ok⟩
  exact ⟨x_nilm, x_nilm, x_nilm, x_nilm, x_nilm, x_nilm, x_nilm, x_nilm, x_nilm, x_nilm⟩
set_option maxRecDepth 1000000 in
theorem xm10 : x_Met vwCl x_G x_Zs x_Tb x_Nb xM10 := x_main xT10 [] [] 2500 (by decide +kernel) (by decide +kernel) xk10 (by decide +kernel)
/-- TwinFires.isWithin(III)Z -/
def xM11 : xM := (⟨"TwinFires", "isWithin", "(III)Z"⟩, prog_1_method_43_code, 3, some .boolean, [xF, xI 0 0, xI 5 5], [([xI 0 5, xI 0 0, xI 5 5], some (xI 1 1)), ([xF, xI 0 0, xI 5 5], some (xI 0 0))], [], (0, 0, 0, 0), none)
def xT11 : xTab := ([], [], [], [], [], [], [], [], [], [], [])
set_option maxRecDepth 100000 in
set_option maxHeartbeats 4000000 in
theorem xk11 : x_TOK vwCl x_G x_Zs x_Tb x_Nb xM11 xT11 := by
  intro p l e s m args below meth c D U hx hb hml hts hown hK hK0 hU hnm hN
  have X : x_cx p s m args c D U xM11.2.1 xM11.2.2.1 vwCl x_Tb x_Nb xM11.1.cls := ⟨hx, hb, hml, hown, hts, hK, hK0, hU, hN, x_Tb_good, x_Nb_ok⟩
  exact ⟨x_nilm, x_nilm, x_nilm, x_nilm, x_nilm, x_nilm, x_nilm, x_nilm, x_nilm, x_nilm⟩
set_option maxRecDepth 1000000 in
theorem xm11 : x_Met vwCl x_G x_Zs x_Tb x_Nb xM11 := x_main xT11 [] [] 2500 (by decide +kernel) (by decide +kernel) xk11 (by decide +kernel)
/-- TwinFires.isWithin(III)Z -/
def xM12 : xM := (⟨"TwinFires", "isWithin", "(III)Z"⟩, prog_1_method_43_code, 3, some .boolean, [xF, xI 0 0, xI 9 9], [([xI 0 9, xI 0 0, xI 9 9], some (xI 1 1)), ([xF, xI 0 0, xI 9 9], some (xI 0 0))], [], (0, 0, 0, 0), none)
def xT12 : xTab := ([], [], [], [], [], [], [], [], [], [], [])
set_option maxRecDepth 100000 in
set_option maxHeartbeats 4000000 in
theorem xk12 : x_TOK vwCl x_G x_Zs x_Tb x_Nb xM12 xT12 := by
  intro p l e s m args below meth c D U hx hb hml hts hown hK hK0 hU hnm hN
  have X : x_cx p s m args c D U xM12.2.1 xM12.2.2.1 vwCl x_Tb x_Nb xM12.1.cls := ⟨hx, hb, hml, hown, hts, hK, hK0, hU, hN, x_Tb_good, x_Nb_ok⟩
  exact ⟨x_nilm, x_nilm, x_nilm, x_nilm, x_nilm, x_nilm, x_nilm, x_nilm, x_nilm, x_nilm⟩
set_option maxRecDepth 1000000 in
theorem xm12 : x_Met vwCl x_G x_Zs x_Tb x_Nb xM12 := x_main xT12 [] [] 2500 (by decide +kernel) (by decide +kernel) xk12 (by decide +kernel)
