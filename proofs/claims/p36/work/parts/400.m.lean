/-- TwinFires.isWithin(III)Z -/
def xM1 : xM := (⟨"TwinFires", "isWithin", "(III)Z"⟩, prog_1_method_43_code, 3, some .boolean, [xF, xI 0 0, xI 19 19], [([xI 0 19, xI 0 0, xI 19 19], some (xI 1 1)), ([xF, xI 0 0, xI 19 19], some (xI 0 0))], [], (0, 0, 0, 0), none)
def xT1 : xTab := ([], [], [], [], [], [], [], [], [], [], [])
set_option maxRecDepth 100000 in
set_option maxHeartbeats 4000000 in
theorem xk1 : x_TOK vwCl x_G x_Zs x_Tb x_Nb xM1 xT1 := by
  intro p l e s m args below meth c D U hx hb hml hts hown hK hK0 hU hnm hN
  have X : x_cx p s m args c D U xM1.2.1 xM1.2.2.1 vwCl x_Tb x_Nb xM1.1.cls := ⟨hx, hb, hml, hown, hts, hK, hK0, hU, hN, x_Tb_good, x_Nb_ok⟩
  exact ⟨x_nilm, x_nilm, x_nilm, x_nilm, x_nilm, x_nilm, x_nilm, x_nilm, x_nilm, x_nilm, x_nilm⟩
set_option maxRecDepth 1000000 in
theorem xm1 : x_Met vwCl x_G x_Zs x_Tb x_Nb xM1 := x_main xT1 [] [] 2500 (by decide +kernel) (by decide +kernel) xk1 (by decide +kernel)
/-- TwinFires$Land.isPlace(II)Z -/
def xM2 : xM := (⟨"TwinFires$Land", "isPlace", "(II)Z"⟩, prog_4_method_8_code, 2, some .boolean, [xF, xF], [([xF, xF], some (xI 0 0)), ([xI 0 19, xI 0 19], some (xI 1 1))], [], (1, 22, 0, 0), none)
def xT2 : xTab := ([], [], [], [], [], [], [], [(1, 83, 3, none, xM1)], [], [], [])
set_option maxRecDepth 100000 in
set_option maxHeartbeats 4000000 in
theorem xk2 : x_TOK vwCl x_G x_Zs x_Tb x_Nb xM2 xT2 := by
  intro p l e s m args below meth c D U hx hb hml hts hown hK hK0 hU hnm hN
  have X : x_cx p s m args c D U xM2.2.1 xM2.2.2.1 vwCl x_Tb x_Nb xM2.1.cls := ⟨hx, hb, hml, hown, hts, hK, hK0, hU, hN, x_Tb_good, x_Nb_ok⟩
  exact ⟨x_nilm, x_nilm, x_nilm, x_nilm, x_nilm, x_nilm, x_nilm, (x_cons (x_cokSN (host := "TwinFires") X xm1 (x_cons (x_bw19 1 rfl rfl) (x_cons (x_bw0 1 rfl rfl) x_nilm)) (x_bn19 0 rfl rfl) (x_bw19 2 rfl rfl) (by decide +kernel) ⟨Nat.le_of_ble_eq_true rfl, Nat.le_of_ble_eq_true rfl⟩) x_nilm), x_nilm, x_nilm, x_nilm⟩
set_option maxRecDepth 1000000 in
theorem xm2 : x_Met vwCl x_G x_Zs x_Tb x_Nb xM2 := x_main xT2 [] [] 2500 (by decide +kernel) (by decide +kernel) xk2 (by decide +kernel)
/-- TwinFires.isWithin(III)Z -/
def xM3 : xM := (⟨"TwinFires", "isWithin", "(III)Z"⟩, prog_1_method_43_code, 3, some .boolean, [xF, xI 0 0, xI 99 99], [([xI 0 99, xI 0 0, xI 99 99], some (xI 1 1)), ([xF, xI 0 0, xI 99 99], some (xI 0 0))], [], (0, 0, 0, 0), none)
def xT3 : xTab := ([], [], [], [], [], [], [], [], [], [], [])
set_option maxRecDepth 100000 in
set_option maxHeartbeats 4000000 in
theorem xk3 : x_TOK vwCl x_G x_Zs x_Tb x_Nb xM3 xT3 := by
  intro p l e s m args below meth c D U hx hb hml hts hown hK hK0 hU hnm hN
  have X : x_cx p s m args c D U xM3.2.1 xM3.2.2.1 vwCl x_Tb x_Nb xM3.1.cls := ⟨hx, hb, hml, hown, hts, hK, hK0, hU, hN, x_Tb_good, x_Nb_ok⟩
  exact ⟨x_nilm, x_nilm, x_nilm, x_nilm, x_nilm, x_nilm, x_nilm, x_nilm, x_nilm, x_nilm, x_nilm⟩
set_option maxRecDepth 1000000 in
theorem xm3 : x_Met vwCl x_G x_Zs x_Tb x_Nb xM3 := x_main xT3 [] [] 2500 (by decide +kernel) (by decide +kernel) xk3 (by decide +kernel)
/-- TwinFires$Land.isTaken(II)Z -/
def xM4 : xM := (⟨"TwinFires$Land", "isTaken", "(II)Z"⟩, prog_4_method_9_code, 4, some .boolean, [xR false [2], xF, xF], [([xR false [2], xF, xF], some (xI 1 1)), ([xR false [2], xF, xF], some (xI 0 0))], [], (0, 0, 0, 0), none)
def xT4 : xTab := ([(9, 2, 1), (15, 2, 2), (63, 2, 0)], [], [], [], [], [], [], [], [], [], [])
set_option maxRecDepth 100000 in
set_option maxHeartbeats 4000000 in
theorem xk4 : x_TOK vwCl x_G x_Zs x_Tb x_Nb xM4 xT4 := by
  intro p l e s m args below meth c D U hx hb hml hts hown hK hK0 hU hnm hN
  have X : x_cx p s m args c D U xM4.2.1 xM4.2.2.1 vwCl x_Tb x_Nb xM4.1.cls := ⟨hx, hb, hml, hown, hts, hK, hK0, hU, hN, x_Tb_good, x_Nb_ok⟩
  exact ⟨(x_cons (fl0 hts) (x_cons (fl1 hts) (x_cons (fl2 hts) x_nilm))), x_nilm, x_nilm, x_nilm, x_nilm, x_nilm, x_nilm, x_nilm, x_nilm, x_nilm, x_nilm⟩
set_option maxRecDepth 1000000 in
theorem xm4 : x_Met vwCl x_G x_Zs x_Tb x_Nb xM4 := x_main xT4 [(2, ([(0, xR false [2]), (1, xF), (2, xF), (3, xI 0 10)], [], []), (3, true), [], false, 0, [])] [] 2500 (by decide +kernel) (by decide +kernel) xk4 (by decide +kernel)
/-- TwinFires$Land.addHill(III)I -/
def xM5 : xM := (⟨"TwinFires$Land", "addHill", "(III)I"⟩, prog_4_method_7_code, 4, some .int, [xR false [2], xF, xF, xF], [([xR false [2], xF, xF, xF], some (xI (-4) 9))], [(2, 0), (19, 0), (20, 0), (21, 0), (22, 0), (23, 0)], (2, 43, 0, 0), none)
def xT5 : xTab := ([(9, 2, 1), (15, 2, 2), (18, 2, 3), (21, 2, 4), (24, 2, 5), (63, 2, 0)], [(63, 2, 0)], [], [], [], [], [], [(1, 79, 2, none, xM2), (1, 83, 3, none, xM3), (0, 87, 3, some 2, xM4)], [], [], [])
set_option maxRecDepth 100000 in
set_option maxHeartbeats 4000000 in
theorem xk5 : x_TOK vwCl x_G x_Zs x_Tb x_Nb xM5 xT5 := by
  intro p l e s m args below meth c D U hx hb hml hts hown hK hK0 hU hnm hN
  have X : x_cx p s m args c D U xM5.2.1 xM5.2.2.1 vwCl x_Tb x_Nb xM5.1.cls := ⟨hx, hb, hml, hown, hts, hK, hK0, hU, hN, x_Tb_good, x_Nb_ok⟩
  exact ⟨(x_cons (fl0 hts) (x_cons (fl1 hts) (x_cons (fl3 hts) (x_cons (fl4 hts) (x_cons (fl5 hts) (x_cons (fl2 hts) x_nilm)))))), (x_cons (fw6 hts) x_nilm), x_nilm, x_nilm, x_nilm, x_nilm, x_nilm, (x_cons (x_cokS X xm2 (x_cons (x_bw18 13 rfl rfl) (x_cons (x_bw18 14 rfl rfl) (x_cons (x_bw0 2 rfl rfl) x_nilm))) (x_bw18 15 rfl rfl) (by decide +kernel) ⟨Nat.le_of_ble_eq_true rfl, Nat.le_of_ble_eq_true rfl⟩) (x_cons (x_cokSN (host := "TwinFires") X xm3 (x_cons (x_bw19 1 rfl rfl) (x_cons (x_bw0 1 rfl rfl) x_nilm)) (x_bn19 0 rfl rfl) (x_bw19 2 rfl rfl) (by decide +kernel) ⟨Nat.le_of_ble_eq_true rfl, Nat.le_of_ble_eq_true rfl⟩) (x_cons (x_cokV (ci := 2) X xm4 rfl rfl rfl (x_cons (x_bw19 3 rfl rfl) (x_cons (x_bw19 5 rfl rfl) (x_cons (x_at 0 (by decide +kernel) rfl) (x_cons (x_bw0 2 rfl rfl) x_nilm)))) (x_bw19 6 rfl rfl) (by decide +kernel) ⟨Nat.le_of_ble_eq_true rfl, Nat.le_of_ble_eq_true rfl⟩) x_nilm))), x_nilm, x_nilm, x_nilm⟩
set_option maxRecDepth 1000000 in
theorem xm5 : x_Met vwCl x_G x_Zs x_Tb x_Nb xM5 := x_main xT5 [] [] 2500 (by decide +kernel) (by decide +kernel) xk5 (by decide +kernel)
/-- TwinFires.isWithin(III)Z -/
def xM6 : xM := (⟨"TwinFires", "isWithin", "(III)Z"⟩, prog_1_method_43_code, 3, some .boolean, [xF, xI 0 0, xI 2 2], [([xI 0 2, xI 0 0, xI 2 2], some (xI 1 1)), ([xF, xI 0 0, xI 2 2], some (xI 0 0))], [], (0, 0, 0, 0), none)
def xT6 : xTab := ([], [], [], [], [], [], [], [], [], [], [])
set_option maxRecDepth 100000 in
set_option maxHeartbeats 4000000 in
theorem xk6 : x_TOK vwCl x_G x_Zs x_Tb x_Nb xM6 xT6 := by
  intro p l e s m args below meth c D U hx hb hml hts hown hK hK0 hU hnm hN
  have X : x_cx p s m args c D U xM6.2.1 xM6.2.2.1 vwCl x_Tb x_Nb xM6.1.cls := ⟨hx, hb, hml, hown, hts, hK, hK0, hU, hN, x_Tb_good, x_Nb_ok⟩
  exact ⟨x_nilm, x_nilm, x_nilm, x_nilm, x_nilm, x_nilm, x_nilm, x_nilm, x_nilm, x_nilm, x_nilm⟩
set_option maxRecDepth 1000000 in
theorem xm6 : x_Met vwCl x_G x_Zs x_Tb x_Nb xM6 := x_main xT6 [] [] 2500 (by decide +kernel) (by decide +kernel) xk6 (by decide +kernel)
/-- TwinFires.countedAs(II)I -/
def xM7 : xM := (⟨"TwinFires", "countedAs", "(II)I"⟩, prog_1_method_47_code, 4, some .int, [xR false [0], xF, xF], [([xR false [0], xF, xF], some (xF))], [(42, 0)], (1, 22, 0, 0), none)
def xT7 : xTab := ([(44, 0, 6)], [], [], [], [], [], [], [(1, 88, 3, none, xM6)], [], [], [])
set_option maxRecDepth 100000 in
set_option maxHeartbeats 4000000 in
theorem xk7 : x_TOK vwCl x_G x_Zs x_Tb x_Nb xM7 xT7 := by
  intro p l e s m args below meth c D U hx hb hml hts hown hK hK0 hU hnm hN
  have X : x_cx p s m args c D U xM7.2.1 xM7.2.2.1 vwCl x_Tb x_Nb xM7.1.cls := ⟨hx, hb, hml, hown, hts, hK, hK0, hU, hN, x_Tb_good, x_Nb_ok⟩
  exact ⟨(x_cons (fl7 hts) x_nilm), x_nilm, x_nilm, x_nilm, x_nilm, x_nilm, x_nilm, (x_cons (x_cokS X xm6 (x_cons (x_bw19 15 rfl rfl) (x_cons (x_bw19 1 rfl rfl) (x_cons (x_bw0 1 rfl rfl) x_nilm))) (x_bw19 2 rfl rfl) (by decide +kernel) ⟨Nat.le_of_ble_eq_true rfl, Nat.le_of_ble_eq_true rfl⟩) x_nilm), x_nilm, x_nilm, x_nilm⟩
set_option maxRecDepth 1000000 in
theorem xm7 : x_Met vwCl x_G x_Zs x_Tb x_Nb xM7 := x_main xT7 [] [] 2500 (by decide +kernel) (by decide +kernel) xk7 (by decide +kernel)
/-- TwinFires.counted(I)I -/
def xM8 : xM := (⟨"TwinFires", "counted", "(I)I"⟩, prog_1_method_46_code, 2, some .int, [xR false [0], xF], [([xR false [0], xF], some (xF))], [(42, 0)], (2, 45, 0, 0), none)
def xT8 : xTab := ([], [], [], [], [], [], [], [(0, 221, 3, some 0, xM7)], [], [], [])
set_option maxRecDepth 100000 in
set_option maxHeartbeats 4000000 in
theorem xk8 : x_TOK vwCl x_G x_Zs x_Tb x_Nb xM8 xT8 := by
  intro p l e s m args below meth c D U hx hb hml hts hown hK hK0 hU hnm hN
  have X : x_cx p s m args c D U xM8.2.1 xM8.2.2.1 vwCl x_Tb x_Nb xM8.1.cls := ⟨hx, hb, hml, hown, hts, hK, hK0, hU, hN, x_Tb_good, x_Nb_ok⟩
  exact ⟨x_nilm, x_nilm, x_nilm, x_nilm, x_nilm, x_nilm, x_nilm, (x_cons (x_cokV (ci := 11) X xm7 rfl rfl rfl (x_cons (x_bw19 11 rfl rfl) (x_cons (x_bw19 13 rfl rfl) (x_cons (x_at 2 (by decide +kernel) rfl) (x_cons (x_bw0 1 rfl rfl) x_nilm)))) (x_bw19 14 rfl rfl) (by decide +kernel) ⟨Nat.le_of_ble_eq_true rfl, Nat.le_of_ble_eq_true rfl⟩) x_nilm), x_nilm, x_nilm, x_nilm⟩
set_option maxRecDepth 1000000 in
theorem xm8 : x_Met vwCl x_G x_Zs x_Tb x_Nb xM8 := x_main xT8 [] [] 2500 (by decide +kernel) (by decide +kernel) xk8 (by decide +kernel)
/-- TwinFires.hill(III)I -/
def xM9 : xM := (⟨"TwinFires", "hill", "(III)I"⟩, prog_1_method_2_code, 4, some .int, [xR false [0], xF, xF, xF], [([xR false [0], xF, xF, xF], some (xF))], [(2, 0), (19, 0), (20, 0), (21, 0), (22, 0), (23, 0), (42, 0)], (3, 66, 0, 0), none)
def xT9 : xTab := ([(12, 0, 0)], [], [], [], [], [], [], [(0, 55, 4, some 2, xM5), (0, 59, 2, some 0, xM8)], [], [], [])
set_option maxRecDepth 100000 in
set_option maxHeartbeats 4000000 in
theorem xk9 : x_TOK vwCl x_G x_Zs x_Tb x_Nb xM9 xT9 := by
  intro p l e s m args below meth c D U hx hb hml hts hown hK hK0 hU hnm hN
  have X : x_cx p s m args c D U xM9.2.1 xM9.2.2.1 vwCl x_Tb x_Nb xM9.1.cls := ⟨hx, hb, hml, hown, hts, hK, hK0, hU, hN, x_Tb_good, x_Nb_ok⟩
  exact ⟨(x_cons (fl8 hts) x_nilm), x_nilm, x_nilm, x_nilm, x_nilm, x_nilm, x_nilm, (x_cons (x_cokV (ci := 2) X xm5 rfl rfl rfl (x_cons (x_bw18 9 rfl rfl) (x_cons (x_bw18 10 rfl rfl) (x_cons (x_bw18 11 rfl rfl) (x_cons (x_bw0 2 rfl rfl) x_nilm)))) (x_bw18 12 rfl rfl) (by decide +kernel) ⟨Nat.le_of_ble_eq_true rfl, Nat.le_of_ble_eq_true rfl⟩) (x_cons (x_cokV (ci := 11) X xm8 rfl rfl rfl (x_cons (x_bw19 7 rfl rfl) (x_cons (x_bw19 9 rfl rfl) (x_cons (x_at 1 (by decide +kernel) rfl) (x_cons (x_bw0 1 rfl rfl) x_nilm)))) (x_bw19 10 rfl rfl) (by decide +kernel) ⟨Nat.le_of_ble_eq_true rfl, Nat.le_of_ble_eq_true rfl⟩) x_nilm)), x_nilm, x_nilm, x_nilm⟩
set_option maxRecDepth 1000000 in
theorem xm9 : x_Met vwCl x_G x_Zs x_Tb x_Nb xM9 := x_main xT9 [] [] 2500 (by decide +kernel) (by decide +kernel) xk9 (by decide +kernel)
/-- TwinFires.isWithin(III)Z -/
def xM10 : xM := (⟨"TwinFires", "isWithin", "(III)Z"⟩, prog_1_method_43_code, 3, some .boolean, [xF, xF, xF], [([xF, xF, xF], some (xI 1 1)), ([xF, xF, xF], some (xI 0 0))], [], (0, 0, 0, 0), none)
def xT10 : xTab := ([], [], [], [], [], [], [], [], [], [], [])
set_option maxRecDepth 100000 in
set_option maxHeartbeats 4000000 in
theorem xk10 : x_TOK vwCl x_G x_Zs x_Tb x_Nb xM10 xT10 := by
  intro p l e s m args below meth c D U hx hb hml hts hown hK hK0 hU hnm hN
  have X : x_cx p s m args c D U xM10.2.1 xM10.2.2.1 vwCl x_Tb x_Nb xM10.1.cls := ⟨hx, hb, hml, hown, hts, hK, hK0, hU, hN, x_Tb_good, x_Nb_ok⟩
  exact ⟨x_nilm, x_nilm, x_nilm, x_nilm, x_nilm, x_nilm, x_nilm, x_nilm, x_nilm, x_nilm, x_nilm⟩
set_option maxRecDepth 1000000 in
theorem xm10 : x_Met vwCl x_G x_Zs x_Tb x_Nb xM10 := x_main xT10 [] [] 2500 (by decide +kernel) (by decide +kernel) xk10 (by decide +kernel)
/-- TwinFires.isWithin(III)Z -/
def xM11 : xM := (⟨"TwinFires", "isWithin", "(III)Z"⟩, prog_1_method_43_code, 3, some .boolean, [xF, xI 0 0, xI 5 5], [([xI 0 5, xI 0 0, xI 5 5], some (xI 1 1)), ([xF, xI 0 0, xI 5 5], some (xI 0 0))], [], (0, 0, 0, 0), none)
def xT11 : xTab := ([], [], [], [], [], [], [], [], [], [], [])
set_option maxRecDepth 100000 in
set_option maxHeartbeats 4000000 in
theorem xk11 : x_TOK vwCl x_G x_Zs x_Tb x_Nb xM11 xT11 := by
  intro p l e s m args below meth c D U hx hb hml hts hown hK hK0 hU hnm hN
  have X : x_cx p s m args c D U xM11.2.1 xM11.2.2.1 vwCl x_Tb x_Nb xM11.1.cls := ⟨hx, hb, hml, hown, hts, hK, hK0, hU, hN, x_Tb_good, x_Nb_ok⟩
  exact ⟨x_nilm, x_nilm, x_nilm, x_nilm, x_nilm, x_nilm, x_nilm, x_nilm, x_nilm, x_nilm, x_nilm⟩
set_option maxRecDepth 1000000 in
theorem xm11 : x_Met vwCl x_G x_Zs x_Tb x_Nb xM11 := x_main xT11 [] [] 2500 (by decide +kernel) (by decide +kernel) xk11 (by decide +kernel)
/-- TwinFires.isWithin(III)Z -/
def xM12 : xM := (⟨"TwinFires", "isWithin", "(III)Z"⟩, prog_1_method_43_code, 3, some .boolean, [xF, xI 0 0, xI 9 9], [([xI 0 9, xI 0 0, xI 9 9], some (xI 1 1)), ([xF, xI 0 0, xI 9 9], some (xI 0 0))], [], (0, 0, 0, 0), none)
def xT12 : xTab := ([], [], [], [], [], [], [], [], [], [], [])
set_option maxRecDepth 100000 in
set_option maxHeartbeats 4000000 in
theorem xk12 : x_TOK vwCl x_G x_Zs x_Tb x_Nb xM12 xT12 := by
  intro p l e s m args below meth c D U hx hb hml hts hown hK hK0 hU hnm hN
  have X : x_cx p s m args c D U xM12.2.1 xM12.2.2.1 vwCl x_Tb x_Nb xM12.1.cls := ⟨hx, hb, hml, hown, hts, hK, hK0, hU, hN, x_Tb_good, x_Nb_ok⟩
  exact ⟨x_nilm, x_nilm, x_nilm, x_nilm, x_nilm, x_nilm, x_nilm, x_nilm, x_nilm, x_nilm, x_nilm⟩
set_option maxRecDepth 1000000 in
theorem xm12 : x_Met vwCl x_G x_Zs x_Tb x_Nb xM12 := x_main xT12 [] [] 2500 (by decide +kernel) (by decide +kernel) xk12 (by decide +kernel)
/-- TwinFires$Stone.<init>(IIIII)V -/
def xM13 : xM := (⟨"TwinFires$Stone", "<init>", "(IIIII)V"⟩, prog_8_method_1_code, 6, none, [xR false [11, 12, 13, 14, 15, 16], xF, xF, xF, xF, xF], [([xR false [11, 12, 13, 14, 15, 16], xF, xF, xF, xF, xF], none)], [(11, 0), (11, 1), (11, 2), (11, 3), (11, 4), (12, 0), (12, 1), (12, 2), (12, 3), (12, 4), (13, 0), (13, 1), (13, 2), (13, 3), (13, 4), (14, 0), (14, 1), (14, 2), (14, 3), (14, 4), (15, 0), (15, 1), (15, 2), (15, 3), (15, 4), (16, 0), (16, 1), (16, 2), (16, 3), (16, 4)], (1, 20, 0, 0), none)
def xT13 : xTab := ([], [(7, 11, 0), (7, 12, 0), (7, 13, 0), (7, 14, 0), (7, 15, 0), (7, 16, 0), (13, 11, 1), (13, 12, 1), (13, 13, 1), (13, 14, 1), (13, 15, 1), (13, 16, 1), (16, 11, 2), (16, 12, 2), (16, 13, 2), (16, 14, 2), (16, 15, 2), (16, 16, 2), (19, 11, 3), (19, 12, 3), (19, 13, 3), (19, 14, 3), (19, 15, 3), (19, 16, 3), (22, 11, 4), (22, 12, 4), (22, 13, 4), (22, 14, 4), (22, 15, 4), (22, 16, 4)], [], [], [], [], [], [], [1], [], [])
set_option maxRecDepth 100000 in
set_option maxHeartbeats 4000000 in
theorem xk13 : x_TOK vwCl x_G x_Zs x_Tb x_Nb xM13 xT13 := by
  intro p l e s m args below meth c D U hx hb hml hts hown hK hK0 hU hnm hN
  have X : x_cx p s m args c D U xM13.2.1 xM13.2.2.1 vwCl x_Tb x_Nb xM13.1.cls := ⟨hx, hb, hml, hown, hts, hK, hK0, hU, hN, x_Tb_good, x_Nb_ok⟩
  exact ⟨x_nilm, (x_cons (fw9 hts hnm) (x_cons (fw10 hts hnm) (x_cons (fw11 hts hnm) (x_cons (fw12 hts hnm) (x_cons (fw13 hts hnm) (x_cons (fw14 hts hnm) (x_cons (fw15 hts hnm) (x_cons (fw16 hts hnm) (x_cons (fw17 hts hnm) (x_cons (fw18 hts hnm) (x_cons (fw19 hts hnm) (x_cons (fw20 hts hnm) (x_cons (fw21 hts hnm) (x_cons (fw22 hts hnm) (x_cons (fw23 hts hnm) (x_cons (fw24 hts hnm) (x_cons (fw25 hts hnm) (x_cons (fw26 hts hnm) (x_cons (fw27 hts hnm) (x_cons (fw28 hts hnm) (x_cons (fw29 hts hnm) (x_cons (fw30 hts hnm) (x_cons (fw31 hts hnm) (x_cons (fw32 hts hnm) (x_cons (fw33 hts hnm) (x_cons (fw34 hts hnm) (x_cons (fw35 hts hnm) (x_cons (fw36 hts hnm) (x_cons (fw37 hts hnm) (x_cons (fw38 hts hnm) x_nilm)))))))))))))))))))))))))))))), x_nilm, x_nilm, x_nilm, x_nilm, x_nilm, x_nilm, (x_cons ⟨(hts _ (x_bw2 13 rfl rfl)), (hts _ (x_bw1 12 rfl rfl)), (hts _ (x_bw1 13 rfl rfl)), Nat.le_of_ble_eq_true rfl, Nat.le_of_ble_eq_true rfl⟩ x_nilm), x_nilm, x_nilm⟩
set_option maxRecDepth 1000000 in
theorem xm13 : x_Met vwCl x_G x_Zs x_Tb x_Nb xM13 := x_main xT13 [] [] 2500 (by decide +kernel) (by decide +kernel) xk13 (by decide +kernel)
/-- TwinFires$Wood.<init>(IIIII)V -/
def xM14 : xM := (⟨"TwinFires$Wood", "<init>", "(IIIII)V"⟩, prog_12_method_1_code, 6, none, [xR false [12, 13, 14, 15], xF, xF, xF, xF, xF], [([xR false [12, 13, 14, 15], xF, xF, xF, xF, xF], none)], [(11, 0), (11, 1), (11, 2), (11, 3), (11, 4), (12, 0), (12, 1), (12, 2), (12, 3), (12, 4), (13, 0), (13, 1), (13, 2), (13, 3), (13, 4), (14, 0), (14, 1), (14, 2), (14, 3), (14, 4), (15, 0), (15, 1), (15, 2), (15, 3), (15, 4), (16, 0), (16, 1), (16, 2), (16, 3), (16, 4)], (2, 45, 0, 0), none)
def xT14 : xTab := ([], [], [], [], [], [], [], [(2, 3, 6, none, xM13)], [], [], [])
set_option maxRecDepth 100000 in
set_option maxHeartbeats 4000000 in
theorem xk14 : x_TOK vwCl x_G x_Zs x_Tb x_Nb xM14 xT14 := by
  intro p l e s m args below meth c D U hx hb hml hts hown hK hK0 hU hnm hN
  have X : x_cx p s m args c D U xM14.2.1 xM14.2.2.1 vwCl x_Tb x_Nb xM14.1.cls := ⟨hx, hb, hml, hown, hts, hK, hK0, hU, hN, x_Tb_good, x_Nb_ok⟩
  exact ⟨x_nilm, x_nilm, x_nilm, x_nilm, x_nilm, x_nilm, x_nilm, (x_cons (x_cokI X xm13 rfl (x_cons (x_bw20 13 rfl rfl) (x_cons (x_bw2 11 rfl rfl) (x_cons (x_bw0 4 rfl rfl) x_nilm))) (x_bw2 12 rfl rfl) rfl (fun Y av h => x_this h) (by decide +kernel) ⟨Nat.le_of_ble_eq_true rfl, Nat.le_of_ble_eq_true rfl⟩) x_nilm), x_nilm, x_nilm, x_nilm⟩
set_option maxRecDepth 1000000 in
theorem xm14 : x_Met vwCl x_G x_Zs x_Tb x_Nb xM14 := x_main xT14 [] [] 2500 (by decide +kernel) (by decide +kernel) xk14 (by decide +kernel)
/-- TwinFires$Pine.<init>(IIIII)V -/
def xM15 : xM := (⟨"TwinFires$Pine", "<init>", "(IIIII)V"⟩, prog_6_method_1_code, 6, none, [xR false [13, 15], xF, xF, xF, xF, xF], [([xR false [13, 15], xF, xF, xF, xF, xF], none)], [(11, 0), (11, 1), (11, 2), (11, 3), (11, 4), (12, 0), (12, 1), (12, 2), (12, 3), (12, 4), (13, 0), (13, 1), (13, 2), (13, 3), (13, 4), (14, 0), (14, 1), (14, 2), (14, 3), (14, 4), (15, 0), (15, 1), (15, 2), (15, 3), (15, 4), (16, 0), (16, 1), (16, 2), (16, 3), (16, 4)], (3, 70, 0, 0), none)
def xT15 : xTab := ([], [], [], [], [], [], [], [(2, 1, 6, none, xM14)], [], [], [])
set_option maxRecDepth 100000 in
set_option maxHeartbeats 4000000 in
theorem xk15 : x_TOK vwCl x_G x_Zs x_Tb x_Nb xM15 xT15 := by
  intro p l e s m args below meth c D U hx hb hml hts hown hK hK0 hU hnm hN
  have X : x_cx p s m args c D U xM15.2.1 xM15.2.2.1 vwCl x_Tb x_Nb xM15.1.cls := ⟨hx, hb, hml, hown, hts, hK, hK0, hU, hN, x_Tb_good, x_Nb_ok⟩
  exact ⟨x_nilm, x_nilm, x_nilm, x_nilm, x_nilm, x_nilm, x_nilm, (x_cons (x_cokI X xm14 rfl (x_cons (x_bw21 9 rfl rfl) (x_cons (x_bw20 11 rfl rfl) (x_cons (x_bw0 10 rfl rfl) x_nilm))) (x_bw20 12 rfl rfl) rfl (fun Y av h => x_this h) (by decide +kernel) ⟨Nat.le_of_ble_eq_true rfl, Nat.le_of_ble_eq_true rfl⟩) x_nilm), x_nilm, x_nilm, x_nilm⟩
set_option maxRecDepth 1000000 in
theorem xm15 : x_Met vwCl x_G x_Zs x_Tb x_Nb xM15 := x_main xT15 [] [] 2500 (by decide +kernel) (by decide +kernel) xk15 (by decide +kernel)
/-- TwinFires$Hedge.<init>(IIIII)V -/
def xM16 : xM := (⟨"TwinFires$Hedge", "<init>", "(IIIII)V"⟩, prog_3_method_1_code, 6, none, [xR false [14], xF, xF, xF, xF, xF], [([xR false [14], xF, xF, xF, xF, xF], none)], [(11, 0), (11, 1), (11, 2), (11, 3), (11, 4), (12, 0), (12, 1), (12, 2), (12, 3), (12, 4), (13, 0), (13, 1), (13, 2), (13, 3), (13, 4), (14, 0), (14, 1), (14, 2), (14, 3), (14, 4), (15, 0), (15, 1), (15, 2), (15, 3), (15, 4), (16, 0), (16, 1), (16, 2), (16, 3), (16, 4)], (3, 70, 0, 0), none)
def xT16 : xTab := ([], [], [], [], [], [], [], [(2, 1, 6, none, xM14)], [], [], [])
set_option maxRecDepth 100000 in
set_option maxHeartbeats 4000000 in
theorem xk16 : x_TOK vwCl x_G x_Zs x_Tb x_Nb xM16 xT16 := by
  intro p l e s m args below meth c D U hx hb hml hts hown hK hK0 hU hnm hN
  have X : x_cx p s m args c D U xM16.2.1 xM16.2.2.1 vwCl x_Tb x_Nb xM16.1.cls := ⟨hx, hb, hml, hown, hts, hK, hK0, hU, hN, x_Tb_good, x_Nb_ok⟩
  exact ⟨x_nilm, x_nilm, x_nilm, x_nilm, x_nilm, x_nilm, x_nilm, (x_cons (x_cokI X xm14 rfl (x_cons (x_bw22 5 rfl rfl) (x_cons (x_bw20 11 rfl rfl) (x_cons (x_bw0 10 rfl rfl) x_nilm))) (x_bw20 12 rfl rfl) rfl (fun Y av h => x_this h) (by decide +kernel) ⟨Nat.le_of_ble_eq_true rfl, Nat.le_of_ble_eq_true rfl⟩) x_nilm), x_nilm, x_nilm, x_nilm⟩
set_option maxRecDepth 1000000 in
theorem xm16 : x_Met vwCl x_G x_Zs x_Tb x_Nb xM16 := x_main xT16 [] [] 2500 (by decide +kernel) (by decide +kernel) xk16 (by decide +kernel)
/-- TwinFires$Topped.<init>(IIIII)V -/
def xM17 : xM := (⟨"TwinFires$Topped", "<init>", "(IIIII)V"⟩, prog_10_method_1_code, 6, none, [xR false [15], xF, xF, xF, xF, xF], [([xR false [15], xF, xF, xF, xF, xF], none)], [(11, 0), (11, 1), (11, 2), (11, 3), (11, 4), (12, 0), (12, 1), (12, 2), (12, 3), (12, 4), (13, 0), (13, 1), (13, 2), (13, 3), (13, 4), (14, 0), (14, 1), (14, 2), (14, 3), (14, 4), (15, 0), (15, 1), (15, 2), (15, 3), (15, 4), (16, 0), (16, 1), (16, 2), (16, 3), (16, 4)], (4, 95, 0, 0), none)
def xT17 : xTab := ([], [], [], [], [], [], [], [(2, 1, 6, none, xM15)], [], [], [])
set_option maxRecDepth 100000 in
set_option maxHeartbeats 4000000 in
theorem xk17 : x_TOK vwCl x_G x_Zs x_Tb x_Nb xM17 xT17 := by
  intro p l e s m args below meth c D U hx hb hml hts hown hK hK0 hU hnm hN
  have X : x_cx p s m args c D U xM17.2.1 xM17.2.2.1 vwCl x_Tb x_Nb xM17.1.cls := ⟨hx, hb, hml, hown, hts, hK, hK0, hU, hN, x_Tb_good, x_Nb_ok⟩
  exact ⟨x_nilm, x_nilm, x_nilm, x_nilm, x_nilm, x_nilm, x_nilm, (x_cons (x_cokI X xm15 rfl (x_cons (x_bw23 1 rfl rfl) (x_cons (x_bw21 7 rfl rfl) (x_cons (x_bw0 11 rfl rfl) x_nilm))) (x_bw21 8 rfl rfl) rfl (fun Y av h => x_this h) (by decide +kernel) ⟨Nat.le_of_ble_eq_true rfl, Nat.le_of_ble_eq_true rfl⟩) x_nilm), x_nilm, x_nilm, x_nilm⟩
set_option maxRecDepth 1000000 in
theorem xm17 : x_Met vwCl x_G x_Zs x_Tb x_Nb xM17 := x_main xT17 [] [] 2500 (by decide +kernel) (by decide +kernel) xk17 (by decide +kernel)
/-- TwinFires$Wall.<init>(IIIII)V -/
def xM18 : xM := (⟨"TwinFires$Wall", "<init>", "(IIIII)V"⟩, prog_11_method_1_code, 6, none, [xR false [16], xF, xF, xF, xF, xF], [([xR false [16], xF, xF, xF, xF, xF], none)], [(11, 0), (11, 1), (11, 2), (11, 3), (11, 4), (12, 0), (12, 1), (12, 2), (12, 3), (12, 4), (13, 0), (13, 1), (13, 2), (13, 3), (13, 4), (14, 0), (14, 1), (14, 2), (14, 3), (14, 4), (15, 0), (15, 1), (15, 2), (15, 3), (15, 4), (16, 0), (16, 1), (16, 2), (16, 3), (16, 4)], (2, 45, 0, 0), none)
def xT18 : xTab := ([], [], [], [], [], [], [], [(2, 1, 6, none, xM13)], [], [], [])
set_option maxRecDepth 100000 in
set_option maxHeartbeats 4000000 in
theorem xk18 : x_TOK vwCl x_G x_Zs x_Tb x_Nb xM18 xT18 := by
  intro p l e s m args below meth c D U hx hb hml hts hown hK hK0 hU hnm hN
  have X : x_cx p s m args c D U xM18.2.1 xM18.2.2.1 vwCl x_Tb x_Nb xM18.1.cls := ⟨hx, hb, hml, hown, hts, hK, hK0, hU, hN, x_Tb_good, x_Nb_ok⟩
  exact ⟨x_nilm, x_nilm, x_nilm, x_nilm, x_nilm, x_nilm, x_nilm, (x_cons (x_cokI X xm13 rfl (x_cons (x_bw23 13 rfl rfl) (x_cons (x_bw2 11 rfl rfl) (x_cons (x_bw0 4 rfl rfl) x_nilm))) (x_bw2 12 rfl rfl) rfl (fun Y av h => x_this h) (by decide +kernel) ⟨Nat.le_of_ble_eq_true rfl, Nat.le_of_ble_eq_true rfl⟩) x_nilm), x_nilm, x_nilm, x_nilm⟩
set_option maxRecDepth 1000000 in
theorem xm18 : x_Met vwCl x_G x_Zs x_Tb x_Nb xM18 := x_main xT18 [] [] 2500 (by decide +kernel) (by decide +kernel) xk18 (by decide +kernel)
/-- TwinFires.isWithin(III)Z -/
def xM19 : xM := (⟨"TwinFires", "isWithin", "(III)Z"⟩, prog_1_method_43_code, 3, some .boolean, [xF, xI 0 0, xI 0 0], [([xI 0 0, xI 0 0, xI 0 0], some (xI 1 1)), ([xF, xI 0 0, xI 0 0], some (xI 0 0))], [], (0, 0, 0, 0), none)
def xT19 : xTab := ([], [], [], [], [], [], [], [], [], [], [])
set_option maxRecDepth 100000 in
set_option maxHeartbeats 4000000 in
theorem xk19 : x_TOK vwCl x_G x_Zs x_Tb x_Nb xM19 xT19 := by
  intro p l e s m args below meth c D U hx hb hml hts hown hK hK0 hU hnm hN
  have X : x_cx p s m args c D U xM19.2.1 xM19.2.2.1 vwCl x_Tb x_Nb xM19.1.cls := ⟨hx, hb, hml, hown, hts, hK, hK0, hU, hN, x_Tb_good, x_Nb_ok⟩
  exact ⟨x_nilm, x_nilm, x_nilm, x_nilm, x_nilm, x_nilm, x_nilm, x_nilm, x_nilm, x_nilm, x_nilm⟩
set_option maxRecDepth 1000000 in
theorem xm19 : x_Met vwCl x_G x_Zs x_Tb x_Nb xM19 := x_main xT19 [] [] 2500 (by decide +kernel) (by decide +kernel) xk19 (by decide +kernel)
/-- TwinFires$Land.addThing(IIIII)I -/
def xM20 : xM := (⟨"TwinFires$Land", "addThing", "(IIIII)I"⟩, prog_4_method_10_code, 7, some .int, [xR false [2], xF, xF, xF, xF, xF], [([xR false [2], xF, xF, xF, xF, xF], some (xI (-4) 7))], [(2, 6), (11, 0), (11, 1), (11, 2), (11, 3), (11, 4), (12, 0), (12, 1), (12, 2), (12, 3), (12, 4), (13, 0), (13, 1), (13, 2), (13, 3), (13, 4), (14, 0), (14, 1), (14, 2), (14, 3), (14, 4), (15, 0), (15, 1), (15, 2), (15, 3), (15, 4), (16, 0), (16, 1), (16, 2), (16, 3), (16, 4), (24, 0), (25, 0), (26, 0)], (5, 120, 1, 5), none)
def xT20 : xTab := ([(29, 2, 7), (33, 2, 8), (36, 2, 9), (73, 2, 6)], [(73, 2, 6)], [(27, 11), (90, 12), (93, 13), (96, 14), (99, 15), (102, 16)], [], [], [], [], [(2, 60, 6, none, xM13), (2, 92, 6, none, xM14), (2, 95, 6, none, xM15), (2, 98, 6, none, xM16), (2, 101, 6, none, xM17), (2, 104, 6, none, xM18), (1, 79, 2, none, xM2), (1, 83, 3, none, xM11), (1, 83, 3, none, xM3), (1, 83, 3, none, xM12), (1, 83, 3, none, xM19)], [], [(24, 11), (24, 12), (24, 13), (24, 14), (24, 15), (24, 16)], [])
set_option maxRecDepth 100000 in
set_option maxHeartbeats 4000000 in
theorem xk20 : x_TOK vwCl x_G x_Zs x_Tb x_Nb xM20 xT20 := by
  intro p l e s m args below meth c D U hx hb hml hts hown hK hK0 hU hnm hN
  have X : x_cx p s m args c D U xM20.2.1 xM20.2.2.1 vwCl x_Tb x_Nb xM20.1.cls := ⟨hx, hb, hml, hown, hts, hK, hK0, hU, hN, x_Tb_good, x_Nb_ok⟩
  exact ⟨(x_cons (fl39 hts) (x_cons (fl40 hts) (x_cons (fl41 hts) (x_cons (fl42 hts) x_nilm)))), (x_cons (fw43 hts) x_nilm), (x_cons ⟨6, _, RX6, TX6, tyX6, rfl, rfl, iX6, tyX6_ok, (hts _ (x_bw2 4 rfl rfl)), (hts _ (x_bw2 9 rfl rfl)), (hts _ (x_bw0 4 rfl rfl)), x_dfl (by decide +kernel)⟩ (x_cons ⟨10, _, RX10, TX10, tyX10, rfl, rfl, iX10, tyX10_ok, (hts _ (x_bw20 8 rfl rfl)), (hts _ (x_bw20 9 rfl rfl)), (hts _ (x_bw0 10 rfl rfl)), x_dfl (by decide +kernel)⟩ (x_cons ⟨4, _, RX4, TX4, tyX4, rfl, rfl, iX4, tyX4_ok, (hts _ (x_bw21 4 rfl rfl)), (hts _ (x_bw21 5 rfl rfl)), (hts _ (x_bw0 11 rfl rfl)), x_dfl (by decide +kernel)⟩ (x_cons ⟨1, _, RX1, TX1, tyX1, rfl, rfl, iX1, tyX1_ok, (hts _ (x_bw22 0 rfl rfl)), (hts _ (x_bw22 1 rfl rfl)), (hts _ (x_bw0 12 rfl rfl)), x_dfl (by decide +kernel)⟩ (x_cons ⟨8, _, RX8, TX8, tyX8, rfl, rfl, iX8, tyX8_ok, (hts _ (x_bw22 12 rfl rfl)), (hts _ (x_bw22 13 rfl rfl)), (hts _ (x_bw0 13 rfl rfl)), x_dfl (by decide +kernel)⟩ (x_cons ⟨9, _, RX9, TX9, tyX9, rfl, rfl, iX9, tyX9_ok, (hts _ (x_bw23 8 rfl rfl)), (hts _ (x_bw23 9 rfl rfl)), (hts _ (x_bw0 14 rfl rfl)), x_dfl (by decide +kernel)⟩ x_nilm)))))), x_nilm, x_nilm, x_nilm, x_nilm, (x_cons (x_cokI X xm13 rfl (x_cons (x_bw2 10 rfl rfl) (x_cons (x_bw2 11 rfl rfl) (x_cons (x_bw0 4 rfl rfl) x_nilm))) (x_bw2 12 rfl rfl) rfl (fun Y av h => x_this h) (by decide +kernel) ⟨Nat.le_of_ble_eq_true rfl, Nat.le_of_ble_eq_true rfl⟩) (x_cons (x_cokI X xm14 rfl (x_cons (x_bw20 10 rfl rfl) (x_cons (x_bw20 11 rfl rfl) (x_cons (x_bw0 10 rfl rfl) x_nilm))) (x_bw20 12 rfl rfl) rfl (fun Y av h => x_this h) (by decide +kernel) ⟨Nat.le_of_ble_eq_true rfl, Nat.le_of_ble_eq_true rfl⟩) (x_cons (x_cokI X xm15 rfl (x_cons (x_bw21 6 rfl rfl) (x_cons (x_bw21 7 rfl rfl) (x_cons (x_bw0 11 rfl rfl) x_nilm))) (x_bw21 8 rfl rfl) rfl (fun Y av h => x_this h) (by decide +kernel) ⟨Nat.le_of_ble_eq_true rfl, Nat.le_of_ble_eq_true rfl⟩) (x_cons (x_cokI X xm16 rfl (x_cons (x_bw22 2 rfl rfl) (x_cons (x_bw22 3 rfl rfl) (x_cons (x_bw0 12 rfl rfl) x_nilm))) (x_bw22 4 rfl rfl) rfl (fun Y av h => x_this h) (by decide +kernel) ⟨Nat.le_of_ble_eq_true rfl, Nat.le_of_ble_eq_true rfl⟩) (x_cons (x_cokI X xm17 rfl (x_cons (x_bw22 14 rfl rfl) (x_cons (x_bw22 15 rfl rfl) (x_cons (x_bw0 13 rfl rfl) x_nilm))) (x_bw23 0 rfl rfl) rfl (fun Y av h => x_this h) (by decide +kernel) ⟨Nat.le_of_ble_eq_true rfl, Nat.le_of_ble_eq_true rfl⟩) (x_cons (x_cokI X xm18 rfl (x_cons (x_bw23 10 rfl rfl) (x_cons (x_bw23 11 rfl rfl) (x_cons (x_bw0 14 rfl rfl) x_nilm))) (x_bw23 12 rfl rfl) rfl (fun Y av h => x_this h) (by decide +kernel) ⟨Nat.le_of_ble_eq_true rfl, Nat.le_of_ble_eq_true rfl⟩) (x_cons (x_cokS X xm2 (x_cons (x_bw18 13 rfl rfl) (x_cons (x_bw18 14 rfl rfl) (x_cons (x_bw0 2 rfl rfl) x_nilm))) (x_bw18 15 rfl rfl) (by decide +kernel) ⟨Nat.le_of_ble_eq_true rfl, Nat.le_of_ble_eq_true rfl⟩) (x_cons (x_cokSN (host := "TwinFires") X xm11 (x_cons (x_bw19 1 rfl rfl) (x_cons (x_bw0 1 rfl rfl) x_nilm)) (x_bn19 0 rfl rfl) (x_bw19 2 rfl rfl) (by decide +kernel) ⟨Nat.le_of_ble_eq_true rfl, Nat.le_of_ble_eq_true rfl⟩) (x_cons (x_cokSN (host := "TwinFires") X xm3 (x_cons (x_bw19 1 rfl rfl) (x_cons (x_bw0 1 rfl rfl) x_nilm)) (x_bn19 0 rfl rfl) (x_bw19 2 rfl rfl) (by decide +kernel) ⟨Nat.le_of_ble_eq_true rfl, Nat.le_of_ble_eq_true rfl⟩) (x_cons (x_cokSN (host := "TwinFires") X xm12 (x_cons (x_bw19 1 rfl rfl) (x_cons (x_bw0 1 rfl rfl) x_nilm)) (x_bn19 0 rfl rfl) (x_bw19 2 rfl rfl) (by decide +kernel) ⟨Nat.le_of_ble_eq_true rfl, Nat.le_of_ble_eq_true rfl⟩) (x_cons (x_cokSN (host := "TwinFires") X xm19 (x_cons (x_bw19 1 rfl rfl) (x_cons (x_bw0 1 rfl rfl) x_nilm)) (x_bn19 0 rfl rfl) (x_bw19 2 rfl rfl) (by decide +kernel) ⟨Nat.le_of_ble_eq_true rfl, Nat.le_of_ble_eq_true rfl⟩) x_nilm))))))))))), x_nilm, (x_cons ⟨_, _, _, "TwinFires$Stone", 6, _, _, rfl, rfl, rfl, x_castSelf (hK.1 6 _ rfl).2⟩ (x_cons ⟨_, _, _, "TwinFires$Stone", 10, _, _, rfl, rfl, rfl, hN _ (x_bn89 3 rfl rfl)⟩ (x_cons ⟨_, _, _, "TwinFires$Stone", 4, _, _, rfl, rfl, rfl, hN _ (x_bn89 4 rfl rfl)⟩ (x_cons ⟨_, _, _, "TwinFires$Stone", 1, _, _, rfl, rfl, rfl, hN _ (x_bn89 5 rfl rfl)⟩ (x_cons ⟨_, _, _, "TwinFires$Stone", 8, _, _, rfl, rfl, rfl, hN _ (x_bn89 6 rfl rfl)⟩ (x_cons ⟨_, _, _, "TwinFires$Stone", 9, _, _, rfl, rfl, rfl, hN _ (x_bn89 7 rfl rfl)⟩ x_nilm)))))), x_nilm⟩
set_option maxRecDepth 1000000 in
theorem xm20 : x_Met vwCl x_G x_Zs x_Tb x_Nb xM20 := x_main xT20 [] [] 2500 (by decide +kernel) (by decide +kernel) xk20 (by decide +kernel)
/-- TwinFires.thing(IIIII)I -/
def xM21 : xM := (⟨"TwinFires", "thing", "(IIIII)I"⟩, prog_1_method_3_code, 6, some .int, [xR false [0], xF, xF, xF, xF, xF], [([xR false [0], xF, xF, xF, xF, xF], some (xF))], [(2, 6), (11, 0), (11, 1), (11, 2), (11, 3), (11, 4), (12, 0), (12, 1), (12, 2), (12, 3), (12, 4), (13, 0), (13, 1), (13, 2), (13, 3), (13, 4), (14, 0), (14, 1), (14, 2), (14, 3), (14, 4), (15, 0), (15, 1), (15, 2), (15, 3), (15, 4), (16, 0), (16, 1), (16, 2), (16, 3), (16, 4), (24, 0), (25, 0), (26, 0), (42, 0)], (6, 146, 1, 5), none)
def xT21 : xTab := ([(12, 0, 0)], [], [], [], [], [], [], [(0, 59, 2, some 0, xM8), (0, 63, 6, some 2, xM20)], [], [], [])
set_option maxRecDepth 100000 in
set_option maxHeartbeats 4000000 in
theorem xk21 : x_TOK vwCl x_G x_Zs x_Tb x_Nb xM21 xT21 := by
  intro p l e s m args below meth c D U hx hb hml hts hown hK hK0 hU hnm hN
  have X : x_cx p s m args c D U xM21.2.1 xM21.2.2.1 vwCl x_Tb x_Nb xM21.1.cls := ⟨hx, hb, hml, hown, hts, hK, hK0, hU, hN, x_Tb_good, x_Nb_ok⟩
  exact ⟨(x_cons (fl8 hts) x_nilm), x_nilm, x_nilm, x_nilm, x_nilm, x_nilm, x_nilm, (x_cons (x_cokV (ci := 11) X xm8 rfl rfl rfl (x_cons (x_bw19 7 rfl rfl) (x_cons (x_bw19 9 rfl rfl) (x_cons (x_at 1 (by decide +kernel) rfl) (x_cons (x_bw0 1 rfl rfl) x_nilm)))) (x_bw19 10 rfl rfl) (by decide +kernel) ⟨Nat.le_of_ble_eq_true rfl, Nat.le_of_ble_eq_true rfl⟩) (x_cons (x_cokV (ci := 2) X xm20 rfl rfl rfl (x_cons (x_bw20 4 rfl rfl) (x_cons (x_bw20 5 rfl rfl) (x_cons (x_bw20 6 rfl rfl) (x_cons (x_bw0 2 rfl rfl) x_nilm)))) (x_bw20 7 rfl rfl) (by decide +kernel) ⟨Nat.le_of_ble_eq_true rfl, Nat.le_of_ble_eq_true rfl⟩) x_nilm)), x_nilm, x_nilm, x_nilm⟩
set_option maxRecDepth 1000000 in
theorem xm21 : x_Met vwCl x_G x_Zs x_Tb x_Nb xM21 := x_main xT21 [] [] 2500 (by decide +kernel) (by decide +kernel) xk21 (by decide +kernel)
/-- TwinFires.isWithin(III)Z -/
def xM22 : xM := (⟨"TwinFires", "isWithin", "(III)Z"⟩, prog_1_method_43_code, 3, some .boolean, [xF, xI 0 0, xI 3 3], [([xI 0 3, xI 0 0, xI 3 3], some (xI 1 1)), ([xF, xI 0 0, xI 3 3], some (xI 0 0))], [], (0, 0, 0, 0), none)
def xT22 : xTab := ([], [], [], [], [], [], [], [], [], [], [])
set_option maxRecDepth 100000 in
set_option maxHeartbeats 4000000 in
theorem xk22 : x_TOK vwCl x_G x_Zs x_Tb x_Nb xM22 xT22 := by
  intro p l e s m args below meth c D U hx hb hml hts hown hK hK0 hU hnm hN
  have X : x_cx p s m args c D U xM22.2.1 xM22.2.2.1 vwCl x_Tb x_Nb xM22.1.cls := ⟨hx, hb, hml, hown, hts, hK, hK0, hU, hN, x_Tb_good, x_Nb_ok⟩
  exact ⟨x_nilm, x_nilm, x_nilm, x_nilm, x_nilm, x_nilm, x_nilm, x_nilm, x_nilm, x_nilm, x_nilm⟩
set_option maxRecDepth 1000000 in
theorem xm22 : x_Met vwCl x_G x_Zs x_Tb x_Nb xM22 := x_main xT22 [] [] 2500 (by decide +kernel) (by decide +kernel) xk22 (by decide +kernel)
