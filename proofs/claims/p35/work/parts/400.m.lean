/-- TwinFires$Land.isPlace(II)Z -/
def xM2 : xM := (⟨"TwinFires$Land", "isPlace", "(II)Z"⟩, prog_4_method_8_code, 2, some .boolean, [xF, xF], [([xF, xF], some (xI 0 0)), ([xI 0 19, xI 0 19], some (xI 1 1))], [], (1, 22, 0, 0), none)
/-- TwinFires.isWithin(III)Z -/
def xM3 : xM := (⟨"TwinFires", "isWithin", "(III)Z"⟩, prog_1_method_43_code, 3, some .boolean, [xF, xI 0 0, xI 99 99], [([xI 0 99, xI 0 0, xI 99 99], some (xI 1 1)), ([xF, xI 0 0, xI 99 99], some (xI 0 0))], [], (0, 0, 0, 0), none)
def xT3 : xTab := ([], [], [], [], [], [], [], [], [], [], [])
set_option maxRecDepth 100000 in
set_option maxHeartbeats 4000000 in
theorem xk3 : x_TOK vwCl x_G x_Zs x_Tb x_Nb xM3 xT3 := by
  intro p l e s m args below meth c D U hx hb hml hts hown hK hK0 hU hnm hN
  have X : x_cx p s m args c D U xM3.2.1 xM3.2.2.1 vwCl x_Tb x_Nb xM3.1.cls := ⟨hx, hb, hml, hown, hts, hK, hK0, hU, hN, x_Tb_good, x_Nb_ok⟩
  exact ⟨x_nilm, x_nilm, x_nilm, x_nilm, x_nilm, x_nilm, x_nilm, x_nilm, x_nilm, x_nilm, x_nilm⟩
set_option maxRecDepth 1000000 in
theorem xm3 : x_Met vwCl x_G x_Zs x_Tb x_Nb xM3 := x_main xT3 [] [] 2500 (by decide +kernel) (by decide +kernel) xk3 (by decide +kernel)
/-- TwinFires$Land.isTaken(II)Z -/
def xM4 : xM := (⟨"TwinFires$Land", "isTaken", "(II)Z"⟩, prog_4_method_9_code, 4, some .boolean, [xR false [2], xF, xF], [([xR false [2], xF, xF], some (xI 1 1)), ([xR false [2], xF, xF], some (xI 0 0))], [], (0, 0, 0, 0), none)
/-- TwinFires$Land.addHill(III)I -/
def xM5 : xM := (⟨"TwinFires$Land", "addHill", "(III)I"⟩, prog_4_method_7_code, 4, some .int, [xR false [2], xF, xF, xF], [([xR false [2], xF, xF, xF], some (xI (-4) 9))], [(2, 0), (19, 0), (20, 0), (21, 0), (22, 0), (23, 0)], (2, 43, 0, 0), none)
/-- TwinFires.isWithin(III)Z -/
def xM6 : xM := (⟨"TwinFires", "isWithin", "(III)Z"⟩, prog_1_method_43_code, 3, some .boolean, [xF, xI 0 0, xI 2 2], [([xI 0 2, xI 0 0, xI 2 2], some (xI 1 1)), ([xF, xI 0 0, xI 2 2], some (xI 0 0))], [], (0, 0, 0, 0), none)
def xT6 : xTab := ([], [], [], [], [], [], [], [], [], [], [])
set_option maxRecDepth 100000 in
set_option maxHeartbeats 4000000 in
theorem xk6 : x_TOK vwCl x_G x_Zs x_Tb x_Nb xM6 xT6 := by
  intro p l e s m args below meth c D U hx hb hml hts hown hK hK0 hU hnm hN
  have X : x_cx p s m args c D U xM6.2.1 xM6.2.2.1 vwCl x_Tb x_Nb xM6.1.cls := ⟨hx, hb, hml, hown, hts, hK, hK0, hU, hN, x_Tb_good, x_Nb_ok⟩
  exact ⟨x_nilm, x_nilm, x_nilm, x_nilm, x_nilm, x_nilm, x_nilm, x_nilm, x_nilm, x_nilm, x_nilm⟩
set_option maxRecDepth 1000000 in
theorem xm6 : x_Met vwCl x_G x_Zs x_Tb x_Nb xM6 := x_main xT6 [] [] 2500 (by decide +kernel) (by decide +kernel) xk6 (by decide +kernel)
/-- TwinFires.countedAs(II)I -/
def xM7 : xM := (⟨"TwinFires", "countedAs", "(II)I"⟩, prog_1_method_47_code, 4, some .int, [xR false [0], xF, xF], [([xR false [0], xF, xF], some (xF))], [(42, 0)], (1, 22, 0, 0), none)
def xT7 : xTab := ([(44, 0, 6)], [], [], [], [], [], [], [(1, 88, 3, none, xM6)], [], [], [])
set_option maxRecDepth 100000 in
set_option maxHeartbeats 4000000 in
theorem xk7 : x_TOK vwCl x_G x_Zs x_Tb x_Nb xM7 xT7 := by
  intro p l e s m args below meth c D U hx hb hml hts hown hK hK0 hU hnm hN
  have X : x_cx p s m args c D U xM7.2.1 xM7.2.2.1 vwCl x_Tb x_Nb xM7.1.cls := ⟨hx, hb, hml, hown, hts, hK, hK0, hU, hN, x_Tb_good, x_Nb_ok⟩
  exact ⟨(x_cons (fl7 hts) x_nilm), x_nilm, x_nilm, x_nilm, x_nilm, x_nilm, x_nilm, (x_cons (x_cokS X xm6 (x_cons (x_bw19 15 rfl rfl) (x_cons (x_bw19 1 rfl rfl) (x_cons (x_bw0 1 rfl rfl) x_nilm))) (x_bw19 2 rfl rfl) (by decide +kernel) ⟨Nat.le_of_ble_eq_true rfl, Nat.le_of_ble_eq_true rfl⟩) x_nilm), x_nilm, x_nilm, x_nilm⟩
set_option maxRecDepth 1000000 in
theorem xm7 : x_Met vwCl x_G x_Zs x_Tb x_Nb xM7 := x_main xT7 [] [] 2500 (by decide +kernel) (by decide +kernel) xk7 (by decide +kernel)
/-- TwinFires.counted(I)I -/
def xM8 : xM := (⟨"TwinFires", "counted", "(I)I"⟩, prog_1_method_46_code, 2, some .int, [xR false [0], xF], [([xR false [0], xF], some (xF))], [(42, 0)], (2, 45, 0, 0), none)
def xT8 : xTab := ([], [], [], [], [], [], [], [(0, 221, 3, some 0, xM7)], [], [], [])
set_option maxRecDepth 100000 in
set_option maxHeartbeats 4000000 in
theorem xk8 : x_TOK vwCl x_G x_Zs x_Tb x_Nb xM8 xT8 := by
  intro p l e s m args below meth c D U hx hb hml hts hown hK hK0 hU hnm hN
  have X : x_cx p s m args c D U xM8.2.1 xM8.2.2.1 vwCl x_Tb x_Nb xM8.1.cls := ⟨hx, hb, hml, hown, hts, hK, hK0, hU, hN, x_Tb_good, x_Nb_ok⟩
  exact ⟨x_nilm, x_nilm, x_nilm, x_nilm, x_nilm, x_nilm, x_nilm, (x_cons (x_cokV (ci := 11) X xm7 rfl rfl rfl (x_cons (x_bw19 11 rfl rfl) (x_cons (x_bw19 13 rfl rfl) (x_cons (x_at 2 (by decide +kernel) rfl) (x_cons (x_bw0 1 rfl rfl) x_nilm)))) (x_bw19 14 rfl rfl) (by decide +kernel) ⟨Nat.le_of_ble_eq_true rfl, Nat.le_of_ble_eq_true rfl⟩) x_nilm), x_nilm, x_nilm, x_nilm⟩
set_option maxRecDepth 1000000 in
theorem xm8 : x_Met vwCl x_G x_Zs x_Tb x_Nb xM8 := x_main xT8 [] [] 2500 (by decide +kernel) (by decide +kernel) xk8 (by decide +kernel)
/-- TwinFires.hill(III)I -/
def xM9 : xM := (⟨"TwinFires", "hill", "(III)I"⟩, prog_1_method_2_code, 4, some .int, [xR false [0], xF, xF, xF], [([xR false [0], xF, xF, xF], some (xF))], [(2, 0), (19, 0), (20, 0), (21, 0), (22, 0), (23, 0), (42, 0)], (3, 66, 0, 0), none)
/-- TwinFires.isWithin(III)Z -/
def xM10 : xM := (⟨"TwinFires", "isWithin", "(III)Z"⟩, prog_1_method_43_code, 3, some .boolean, [xF, xF, xF], [([xF, xF, xF], some (xI 1 1)), ([xF, xF, xF], some (xI 0 0))], [], (0, 0, 0, 0), none)
/-- TwinFires$Stone.<init>(IIIII)V -/
def xM13 : xM := (⟨"TwinFires$Stone", "<init>", "(IIIII)V"⟩, prog_8_method_1_code, 6, none, [xR false [11, 12, 13, 14, 15, 16], xF, xF, xF, xF, xF], [([xR false [11, 12, 13, 14, 15, 16], xF, xF, xF, xF, xF], none)], [(11, 0), (11, 1), (11, 2), (11, 3), (11, 4), (12, 0), (12, 1), (12, 2), (12, 3), (12, 4), (13, 0), (13, 1), (13, 2), (13, 3), (13, 4), (14, 0), (14, 1), (14, 2), (14, 3), (14, 4), (15, 0), (15, 1), (15, 2), (15, 3), (15, 4), (16, 0), (16, 1), (16, 2), (16, 3), (16, 4)], (1, 20, 0, 0), none)
/-- TwinFires$Wood.<init>(IIIII)V -/
def xM14 : xM := (⟨"TwinFires$Wood", "<init>", "(IIIII)V"⟩, prog_12_method_1_code, 6, none, [xR false [12, 13, 14, 15], xF, xF, xF, xF, xF], [([xR false [12, 13, 14, 15], xF, xF, xF, xF, xF], none)], [(11, 0), (11, 1), (11, 2), (11, 3), (11, 4), (12, 0), (12, 1), (12, 2), (12, 3), (12, 4), (13, 0), (13, 1), (13, 2), (13, 3), (13, 4), (14, 0), (14, 1), (14, 2), (14, 3), (14, 4), (15, 0), (15, 1), (15, 2), (15, 3), (15, 4), (16, 0), (16, 1), (16, 2), (16, 3), (16, 4)], (2, 45, 0, 0), none)
/-- TwinFires$Pine.<init>(IIIII)V -/
def xM15 : xM := (⟨"TwinFires$Pine", "<init>", "(IIIII)V"⟩, prog_6_method_1_code, 6, none, [xR false [13, 15], xF, xF, xF, xF, xF], [([xR false [13, 15], xF, xF, xF, xF, xF], none)], [(11, 0), (11, 1), (11, 2), (11, 3), (11, 4), (12, 0), (12, 1), (12, 2), (12, 3), (12, 4), (13, 0), (13, 1), (13, 2), (13, 3), (13, 4), (14, 0), (14, 1), (14, 2), (14, 3), (14, 4), (15, 0), (15, 1), (15, 2), (15, 3), (15, 4), (16, 0), (16, 1), (16, 2), (16, 3), (16, 4)], (3, 70, 0, 0), none)
/-- TwinFires$Hedge.<init>(IIIII)V -/
def xM16 : xM := (⟨"TwinFires$Hedge", "<init>", "(IIIII)V"⟩, prog_3_method_1_code, 6, none, [xR false [14], xF, xF, xF, xF, xF], [([xR false [14], xF, xF, xF, xF, xF], none)], [(11, 0), (11, 1), (11, 2), (11, 3), (11, 4), (12, 0), (12, 1), (12, 2), (12, 3), (12, 4), (13, 0), (13, 1), (13, 2), (13, 3), (13, 4), (14, 0), (14, 1), (14, 2), (14, 3), (14, 4), (15, 0), (15, 1), (15, 2), (15, 3), (15, 4), (16, 0), (16, 1), (16, 2), (16, 3), (16, 4)], (3, 70, 0, 0), none)
/-- TwinFires$Topped.<init>(IIIII)V -/
def xM17 : xM := (⟨"TwinFires$Topped", "<init>", "(IIIII)V"⟩, prog_10_method_1_code, 6, none, [xR false [15], xF, xF, xF, xF, xF], [([xR false [15], xF, xF, xF, xF, xF], none)], [(11, 0), (11, 1), (11, 2), (11, 3), (11, 4), (12, 0), (12, 1), (12, 2), (12, 3), (12, 4), (13, 0), (13, 1), (13, 2), (13, 3), (13, 4), (14, 0), (14, 1), (14, 2), (14, 3), (14, 4), (15, 0), (15, 1), (15, 2), (15, 3), (15, 4), (16, 0), (16, 1), (16, 2), (16, 3), (16, 4)], (4, 95, 0, 0), none)
/-- TwinFires$Wall.<init>(IIIII)V -/
def xM18 : xM := (⟨"TwinFires$Wall", "<init>", "(IIIII)V"⟩, prog_11_method_1_code, 6, none, [xR false [16], xF, xF, xF, xF, xF], [([xR false [16], xF, xF, xF, xF, xF], none)], [(11, 0), (11, 1), (11, 2), (11, 3), (11, 4), (12, 0), (12, 1), (12, 2), (12, 3), (12, 4), (13, 0), (13, 1), (13, 2), (13, 3), (13, 4), (14, 0), (14, 1), (14, 2), (14, 3), (14, 4), (15, 0), (15, 1), (15, 2), (15, 3), (15, 4), (16, 0), (16, 1), (16, 2), (16, 3), (16, 4)], (2, 45, 0, 0), none)
/-- TwinFires$Land.addThing(IIIII)I -/
def xM20 : xM := (⟨"TwinFires$Land", "addThing", "(IIIII)I"⟩, prog_4_method_10_code, 7, some .int, [xR false [2], xF, xF, xF, xF, xF], [([xR false [2], xF, xF, xF, xF, xF], some (xI (-4) 7))], [(2, 6), (11, 0), (11, 1), (11, 2), (11, 3), (11, 4), (12, 0), (12, 1), (12, 2), (12, 3), (12, 4), (13, 0), (13, 1), (13, 2), (13, 3), (13, 4), (14, 0), (14, 1), (14, 2), (14, 3), (14, 4), (15, 0), (15, 1), (15, 2), (15, 3), (15, 4), (16, 0), (16, 1), (16, 2), (16, 3), (16, 4), (24, 0), (25, 0), (26, 0)], (5, 120, 1, 5), none)
/-- TwinFires.thing(IIIII)I -/
def xM21 : xM := (⟨"TwinFires", "thing", "(IIIII)I"⟩, prog_1_method_3_code, 6, some .int, [xR false [0], xF, xF, xF, xF, xF], [([xR false [0], xF, xF, xF, xF, xF], some (xF))], [(2, 6), (11, 0), (11, 1), (11, 2), (11, 3), (11, 4), (12, 0), (12, 1), (12, 2), (12, 3), (12, 4), (13, 0), (13, 1), (13, 2), (13, 3), (13, 4), (14, 0), (14, 1), (14, 2), (14, 3), (14, 4), (15, 0), (15, 1), (15, 2), (15, 3), (15, 4), (16, 0), (16, 1), (16, 2), (16, 3), (16, 4), (24, 0), (25, 0), (26, 0), (42, 0)], (6, 146, 1, 5), none)
