/-- TwinFires$Text.passAll(II)V -/
def xM63 : xM := (⟨"TwinFires$Text", "passAll", "(II)V"⟩, prog_9_method_6_code, 3, none, [xR false [4], xF, xF], [([xR false [4], xF, xF], none)], [(4, 4)], (1, 22, 0, 0), none)
/-- TwinFires$Text.nextToken()I -/
def xM64 : xM := (⟨"TwinFires$Text", "nextToken", "()I"⟩, prog_9_method_5_code, 2, some .int, [xR false [4]], [([xR false [4]], some (xI 0 4))], [(4, 3), (4, 4)], (2, 44, 0, 0), none)
/-- TwinFires$Text.numberHere()I -/
def xM65 : xM := (⟨"TwinFires$Text", "numberHere", "()I"⟩, prog_9_method_7_code, 3, some .int, [xR false [4]], [([xR false [4]], some (xF))], [], (0, 0, 0, 0), none)
/-- TwinFires$Land.tellItem(I[I)I -/
def xM66 : xM := (⟨"TwinFires$Land", "tellItem", "(I[I)I"⟩, prog_4_method_12_code, 3, some .int, [xR false [2], xF, xR false [40]], [([xR false [2], xF, xR false [40]], some (xF))], [(2, 0), (2, 6), (11, 0), (11, 1), (11, 2), (11, 3), (11, 4), (12, 0), (12, 1), (12, 2), (12, 3), (12, 4), (13, 0), (13, 1), (13, 2), (13, 3), (13, 4), (14, 0), (14, 1), (14, 2), (14, 3), (14, 4), (15, 0), (15, 1), (15, 2), (15, 3), (15, 4), (16, 0), (16, 1), (16, 2), (16, 3), (16, 4), (19, 0), (20, 0), (21, 0), (22, 0), (23, 0), (24, 0), (25, 0), (26, 0), (27, 0)], (6, 146, 1, 5), none)
/-- TwinFires$Land.hasSet(I)Z -/
def xM67 : xM := (⟨"TwinFires$Land", "hasSet", "(I)Z"⟩, prog_4_method_6_code, 2, some .boolean, [xR false [2], xF], [([xR false [2], xI 0 1023], some (xI 1 1)), ([xR false [2], xF], some (xI 0 0))], [], (0, 0, 0, 0), none)
def xT67 : xTab := ([(63, 2, 0)], [], [], [], [], [], [], [], [], [], [])
set_option maxRecDepth 100000 in
set_option maxHeartbeats 4000000 in
theorem xk67 : x_TOK vwCl x_G x_Zs x_Tb x_Nb xM67 xT67 := by
  intro p l e s m args below meth c D U hx hb hml hts hown hK hK0 hU hnm hN
  have X : x_cx p s m args c D U xM67.2.1 xM67.2.2.1 vwCl x_Tb x_Nb xM67.1.cls := ⟨hx, hb, hml, hown, hts, hK, hK0, hU, hN, x_Tb_good, x_Nb_ok⟩
  exact ⟨(x_cons (fl2 hts) x_nilm), x_nilm, x_nilm, x_nilm, x_nilm, x_nilm, x_nilm, x_nilm, x_nilm, x_nilm, x_nilm⟩
set_option maxRecDepth 1000000 in
theorem xm67 : x_Met vwCl x_G x_Zs x_Tb x_Nb xM67 := x_main xT67 [] [] 2500 (by decide +kernel) (by decide +kernel) xk67 (by decide +kernel)
/-- TwinFires.sees(II)I -/
def xM68 : xM := (⟨"TwinFires", "sees", "(II)I"⟩, prog_1_method_13_code, 3, some .int, [xR false [0], xF, xF], [([xR false [0], xF, xF], some (xF))], [(10, 0), (10, 1), (10, 2), (10, 3), (10, 4), (10, 5), (10, 6), (10, 7), (32, 0), (33, 0), (34, 0), (42, 0)], (6, 138, 0, 0), none)
def xT68 : xTab := ([(12, 0, 0), (33, 0, 4), (107, 6, 1)], [], [], [], [], [], [], [(0, 59, 2, some 0, xM8), (0, 101, 2, some 2, xM40), (0, 104, 1, some 0, xM52), (0, 169, 2, some 2, xM67)], [], [], [])
set_option maxRecDepth 100000 in
set_option maxHeartbeats 4000000 in
theorem xk68 : x_TOK vwCl x_G x_Zs x_Tb x_Nb xM68 xT68 := by
  intro p l e s m args below meth c D U hx hb hml hts hown hK hK0 hU hnm hN
  have X : x_cx p s m args c D U xM68.2.1 xM68.2.2.1 vwCl x_Tb x_Nb xM68.1.cls := ⟨hx, hb, hml, hown, hts, hK, hK0, hU, hN, x_Tb_good, x_Nb_ok⟩
  exact ⟨(x_cons (fl8 hts) (x_cons (fl102 hts) (x_cons (fl103 hts) x_nilm))), x_nilm, x_nilm, x_nilm, x_nilm, x_nilm, x_nilm, (x_cons (x_cokV (ci := 11) X xm8 rfl rfl rfl (x_cons (x_bw19 7 rfl rfl) (x_cons (x_bw19 9 rfl rfl) (x_cons (x_at 1 (by decide +kernel) rfl) (x_cons (x_bw0 1 rfl rfl) x_nilm)))) (x_bw19 10 rfl rfl) (by decide +kernel) ⟨Nat.le_of_ble_eq_true rfl, Nat.le_of_ble_eq_true rfl⟩) (x_cons (x_cokV (ci := 2) X xm40 rfl rfl rfl (x_cons (x_bw29 8 rfl rfl) (x_cons (x_bw29 9 rfl rfl) (x_cons (x_bw29 10 rfl rfl) (x_cons (x_bw0 2 rfl rfl) x_nilm)))) (x_bw29 11 rfl rfl) (by decide +kernel) ⟨Nat.le_of_ble_eq_true rfl, Nat.le_of_ble_eq_true rfl⟩) (x_cons (x_cokV (ci := 11) X xm52 rfl rfl rfl (x_cons (x_bw29 12 rfl rfl) (x_cons (x_bw29 14 rfl rfl) (x_cons (x_at 3 (by decide +kernel) rfl) (x_cons (x_bw0 1 rfl rfl) x_nilm)))) (x_bw29 15 rfl rfl) (by decide +kernel) ⟨Nat.le_of_ble_eq_true rfl, Nat.le_of_ble_eq_true rfl⟩) (x_cons (x_cokV (ci := 2) X xm67 rfl rfl rfl (x_cons (x_bw42 2 rfl rfl) (x_cons (x_bw42 3 rfl rfl) (x_cons (x_bw42 4 rfl rfl) (x_cons (x_bw0 2 rfl rfl) x_nilm)))) (x_bw42 5 rfl rfl) (by decide +kernel) ⟨Nat.le_of_ble_eq_true rfl, Nat.le_of_ble_eq_true rfl⟩) x_nilm)))), x_nilm, x_nilm, x_nilm⟩
set_option maxRecDepth 1000000 in
theorem xm68 : x_Met vwCl x_G x_Zs x_Tb x_Nb xM68 := x_main xT68 [] [] 2500 (by decide +kernel) (by decide +kernel) xk68 (by decide +kernel)
/-- TwinFires.isWithin(III)Z -/
def xM69 : xM := (⟨"TwinFires", "isWithin", "(III)Z"⟩, prog_1_method_43_code, 3, some .boolean, [xF, xI 0 0, xI 1 1], [([xI 0 1, xI 0 0, xI 1 1], some (xI 1 1)), ([xF, xI 0 0, xI 1 1], some (xI 0 0))], [], (0, 0, 0, 0), none)
def xT69 : xTab := ([], [], [], [], [], [], [], [], [], [], [])
set_option maxRecDepth 100000 in
set_option maxHeartbeats 4000000 in
theorem xk69 : x_TOK vwCl x_G x_Zs x_Tb x_Nb xM69 xT69 := by
  intro p l e s m args below meth c D U hx hb hml hts hown hK hK0 hU hnm hN
  have X : x_cx p s m args c D U xM69.2.1 xM69.2.2.1 vwCl x_Tb x_Nb xM69.1.cls := ⟨hx, hb, hml, hown, hts, hK, hK0, hU, hN, x_Tb_good, x_Nb_ok⟩
  exact ⟨x_nilm, x_nilm, x_nilm, x_nilm, x_nilm, x_nilm, x_nilm, x_nilm, x_nilm, x_nilm, x_nilm⟩
set_option maxRecDepth 1000000 in
theorem xm69 : x_Met vwCl x_G x_Zs x_Tb x_Nb xM69 := x_main xT69 [] [] 2500 (by decide +kernel) (by decide +kernel) xk69 (by decide +kernel)
/-- TwinFires.isIn(II)Z -/
def xM70 : xM := (⟨"TwinFires", "isIn", "(II)Z"⟩, prog_1_method_44_code, 2, some .boolean, [xF, xF], [([xF, xF], some (xI 1 1)), ([xF, xF], some (xI 0 0))], [], (0, 0, 0, 0), none)
def xT70 : xTab := ([], [], [], [], [], [], [], [], [], [], [])
set_option maxRecDepth 100000 in
set_option maxHeartbeats 4000000 in
theorem xk70 : x_TOK vwCl x_G x_Zs x_Tb x_Nb xM70 xT70 := by
  intro p l e s m args below meth c D U hx hb hml hts hown hK hK0 hU hnm hN
  have X : x_cx p s m args c D U xM70.2.1 xM70.2.2.1 vwCl x_Tb x_Nb xM70.1.cls := ⟨hx, hb, hml, hown, hts, hK, hK0, hU, hN, x_Tb_good, x_Nb_ok⟩
  exact ⟨x_nilm, x_nilm, x_nilm, x_nilm, x_nilm, x_nilm, x_nilm, x_nilm, x_nilm, x_nilm, x_nilm⟩
set_option maxRecDepth 1000000 in
theorem xm70 : x_Met vwCl x_G x_Zs x_Tb x_Nb xM70 := x_main xT70 [] [] 2500 (by decide +kernel) (by decide +kernel) xk70 (by decide +kernel)
/-- java/lang/Integer.bitCount(I)I -/
def xM71 : xM := (⟨"java/lang/Integer", "bitCount", "(I)I"⟩, prog_15_method_49_code, 1, some .int, [xF], [([xF], some (xI 0 63))], [], (0, 0, 0, 0), none)
def xT71 : xTab := ([], [], [], [], [], [(265, 1431655765), (266, 858993459), (267, 252645135)], [], [], [], [], [])
set_option maxRecDepth 100000 in
set_option maxHeartbeats 4000000 in
theorem xk71 : x_TOK vwCl x_G x_Zs x_Tb x_Nb xM71 xT71 := by
  intro p l e s m args below meth c D U hx hb hml hts hown hK hK0 hU hnm hN
  have X : x_cx p s m args c D U xM71.2.1 xM71.2.2.1 vwCl x_Tb x_Nb xM71.1.cls := ⟨hx, hb, hml, hown, hts, hK, hK0, hU, hN, x_Tb_good, x_Nb_ok⟩
  exact ⟨x_nilm, x_nilm, x_nilm, x_nilm, x_nilm, (x_cons ⟨1431655765, rfl, (hts _ (x_bw43 4 rfl rfl))⟩ (x_cons ⟨858993459, rfl, (hts _ (x_bw43 5 rfl rfl))⟩ (x_cons ⟨252645135, rfl, (hts _ (x_bw43 6 rfl rfl))⟩ x_nilm))), x_nilm, x_nilm, x_nilm, x_nilm, x_nilm⟩
set_option maxRecDepth 1000000 in
theorem xm71 : x_Met vwCl x_G x_Zs x_Tb x_Nb xM71 := x_main xT71 [] [] 2500 (by decide +kernel) (by decide +kernel) xk71 (by decide +kernel)
/-- TwinFires$Eyes.firstWrong(I)I -/
def xM72 : xM := (⟨"TwinFires$Eyes", "firstWrong", "(I)I"⟩, prog_2_method_6_code, 3, some .int, [xR false [6], xF], [([xR false [6], xF], some (xI (-1) 9))], [], (1, 21, 0, 0), none)
def xT72 : xTab := ([(18, 6, 1)], [], [], [], [], [], [], [(1, 88, 2, none, xM70), (1, 91, 1, none, xM71)], [], [], [])
set_option maxRecDepth 100000 in
set_option maxHeartbeats 4000000 in
theorem xk72 : x_TOK vwCl x_G x_Zs x_Tb x_Nb xM72 xT72 := by
  intro p l e s m args below meth c D U hx hb hml hts hown hK hK0 hU hnm hN
  have X : x_cx p s m args c D U xM72.2.1 xM72.2.2.1 vwCl x_Tb x_Nb xM72.1.cls := ⟨hx, hb, hml, hown, hts, hK, hK0, hU, hN, x_Tb_good, x_Nb_ok⟩
  exact ⟨(x_cons (fl101 hts) x_nilm), x_nilm, x_nilm, x_nilm, x_nilm, x_nilm, x_nilm, (x_cons (x_cokSN (host := "TwinFires") X xm70 (x_cons (x_bw42 15 rfl rfl) (x_cons (x_bw0 1 rfl rfl) x_nilm)) (x_bn42 14 rfl rfl) (x_bw43 0 rfl rfl) (by decide +kernel) ⟨Nat.le_of_ble_eq_true rfl, Nat.le_of_ble_eq_true rfl⟩) (x_cons (x_cokS X xm71 (x_cons (x_bw43 1 rfl rfl) (x_cons (x_bw43 2 rfl rfl) (x_cons (x_bw1 5 rfl rfl) x_nilm))) (x_bw43 3 rfl rfl) (by decide +kernel) ⟨Nat.le_of_ble_eq_true rfl, Nat.le_of_ble_eq_true rfl⟩) x_nilm)), x_nilm, x_nilm, x_nilm⟩
set_option maxRecDepth 1000000 in
theorem xm72 : x_Met vwCl x_G x_Zs x_Tb x_Nb xM72 := x_main xT72 [(2, ([(0, xR false [6]), (1, xF), (2, xI 0 10)], [], []), (2, true), [], false, 0, [])] [] 2500 (by decide +kernel) (by decide +kernel) xk72 (by decide +kernel)
/-- TwinFires.judge(II)I -/
def xM73 : xM := (⟨"TwinFires", "judge", "(II)I"⟩, prog_1_method_14_code, 4, some .int, [xR false [0], xF, xF], [([xR false [0], xF, xF], some (xF))], [(10, 0), (10, 1), (10, 2), (10, 3), (10, 4), (10, 5), (10, 6), (10, 7), (32, 0), (33, 0), (34, 0), (42, 0)], (6, 138, 0, 0), none)
def xT73 : xTab := ([(12, 0, 0), (33, 0, 4), (107, 6, 1)], [], [], [], [], [], [], [(1, 88, 3, none, xM69), (1, 175, 1, none, xM71), (0, 59, 2, some 0, xM8), (0, 104, 1, some 0, xM52), (0, 169, 2, some 2, xM67), (0, 172, 2, some 6, xM72)], [], [], [])
set_option maxRecDepth 100000 in
set_option maxHeartbeats 4000000 in
theorem xk73 : x_TOK vwCl x_G x_Zs x_Tb x_Nb xM73 xT73 := by
  intro p l e s m args below meth c D U hx hb hml hts hown hK hK0 hU hnm hN
  have X : x_cx p s m args c D U xM73.2.1 xM73.2.2.1 vwCl x_Tb x_Nb xM73.1.cls := ⟨hx, hb, hml, hown, hts, hK, hK0, hU, hN, x_Tb_good, x_Nb_ok⟩
  exact ⟨(x_cons (fl8 hts) (x_cons (fl102 hts) (x_cons (fl103 hts) x_nilm))), x_nilm, x_nilm, x_nilm, x_nilm, x_nilm, x_nilm, (x_cons (x_cokS X xm69 (x_cons (x_bw19 15 rfl rfl) (x_cons (x_bw19 1 rfl rfl) (x_cons (x_bw0 1 rfl rfl) x_nilm))) (x_bw19 2 rfl rfl) (by decide +kernel) ⟨Nat.le_of_ble_eq_true rfl, Nat.le_of_ble_eq_true rfl⟩) (x_cons (x_cokS X xm71 (x_cons (x_bw43 7 rfl rfl) (x_cons (x_bw43 2 rfl rfl) (x_cons (x_bw1 5 rfl rfl) x_nilm))) (x_bw43 3 rfl rfl) (by decide +kernel) ⟨Nat.le_of_ble_eq_true rfl, Nat.le_of_ble_eq_true rfl⟩) (x_cons (x_cokV (ci := 11) X xm8 rfl rfl rfl (x_cons (x_bw19 7 rfl rfl) (x_cons (x_bw19 9 rfl rfl) (x_cons (x_at 1 (by decide +kernel) rfl) (x_cons (x_bw0 1 rfl rfl) x_nilm)))) (x_bw19 10 rfl rfl) (by decide +kernel) ⟨Nat.le_of_ble_eq_true rfl, Nat.le_of_ble_eq_true rfl⟩) (x_cons (x_cokV (ci := 11) X xm52 rfl rfl rfl (x_cons (x_bw29 12 rfl rfl) (x_cons (x_bw29 14 rfl rfl) (x_cons (x_at 3 (by decide +kernel) rfl) (x_cons (x_bw0 1 rfl rfl) x_nilm)))) (x_bw29 15 rfl rfl) (by decide +kernel) ⟨Nat.le_of_ble_eq_true rfl, Nat.le_of_ble_eq_true rfl⟩) (x_cons (x_cokV (ci := 2) X xm67 rfl rfl rfl (x_cons (x_bw42 2 rfl rfl) (x_cons (x_bw42 3 rfl rfl) (x_cons (x_bw42 4 rfl rfl) (x_cons (x_bw0 2 rfl rfl) x_nilm)))) (x_bw42 5 rfl rfl) (by decide +kernel) ⟨Nat.le_of_ble_eq_true rfl, Nat.le_of_ble_eq_true rfl⟩) (x_cons (x_cokV (ci := 0) X xm72 rfl rfl rfl (x_cons (x_bw42 10 rfl rfl) (x_cons (x_bw42 11 rfl rfl) (x_cons (x_bw42 12 rfl rfl) (x_cons (x_bw0 6 rfl rfl) x_nilm)))) (x_bw42 13 rfl rfl) (by decide +kernel) ⟨Nat.le_of_ble_eq_true rfl, Nat.le_of_ble_eq_true rfl⟩) x_nilm)))))), x_nilm, x_nilm, x_nilm⟩
set_option maxRecDepth 1000000 in
theorem xm73 : x_Met vwCl x_G x_Zs x_Tb x_Nb xM73 := x_main xT73 [] [] 2500 (by decide +kernel) (by decide +kernel) xk73 (by decide +kernel)
/-- TwinFires$Rows.fullest(I)I -/
def xM74 : xM := (⟨"TwinFires$Rows", "fullest", "(I)I"⟩, prog_7_method_3_code, 5, some .int, [xR false [8], xF], [([xR false [8], xF], some (xI (-1) 1023))], [], (1, 20, 0, 0), none)
def xT74 : xTab := ([(9, 8, 0), (27, 8, 1)], [], [], [], [], [], [], [(1, 37, 1, none, xM71)], [], [], [])
set_option maxRecDepth 100000 in
set_option maxHeartbeats 4000000 in
theorem xk74 : x_TOK vwCl x_G x_Zs x_Tb x_Nb xM74 xT74 := by
  intro p l e s m args below meth c D U hx hb hml hts hown hK hK0 hU hnm hN
  have X : x_cx p s m args c D U xM74.2.1 xM74.2.2.1 vwCl x_Tb x_Nb xM74.1.cls := ⟨hx, hb, hml, hown, hts, hK, hK0, hU, hN, x_Tb_good, x_Nb_ok⟩
  exact ⟨(x_cons (fl135 hts) (x_cons (fl136 hts) x_nilm)), x_nilm, x_nilm, x_nilm, x_nilm, x_nilm, x_nilm, (x_cons (x_cokS X xm71 (x_cons (x_bw44 9 rfl rfl) (x_cons (x_bw43 2 rfl rfl) (x_cons (x_bw1 5 rfl rfl) x_nilm))) (x_bw43 3 rfl rfl) (by decide +kernel) ⟨Nat.le_of_ble_eq_true rfl, Nat.le_of_ble_eq_true rfl⟩) x_nilm), x_nilm, x_nilm, x_nilm⟩
set_option maxRecDepth 1000000 in
theorem xm74 : x_Met vwCl x_G x_Zs x_Tb x_Nb xM74 := x_main xT74 [(4, ([(0, xR false [8]), (1, xF), (2, xI (-1) 1023), (3, xI 0 1024)], [], []), (3, true), [], false, 0, [])] [] 2500 (by decide +kernel) (by decide +kernel) xk74 (by decide +kernel)
/-- TwinFires.isWithin(III)Z -/
def xM75 : xM := (⟨"TwinFires", "isWithin", "(III)Z"⟩, prog_1_method_43_code, 3, some .boolean, [xF, xI (-1) (-1), xI 10 10], [([xI (-1) 10, xI (-1) (-1), xI 10 10], some (xI 1 1)), ([xF, xI (-1) (-1), xI 10 10], some (xI 0 0))], [], (0, 0, 0, 0), none)
def xT75 : xTab := ([], [], [], [], [], [], [], [], [], [], [])
set_option maxRecDepth 100000 in
set_option maxHeartbeats 4000000 in
theorem xk75 : x_TOK vwCl x_G x_Zs x_Tb x_Nb xM75 xT75 := by
  intro p l e s m args below meth c D U hx hb hml hts hown hK hK0 hU hnm hN
  have X : x_cx p s m args c D U xM75.2.1 xM75.2.2.1 vwCl x_Tb x_Nb xM75.1.cls := ⟨hx, hb, hml, hown, hts, hK, hK0, hU, hN, x_Tb_good, x_Nb_ok⟩
  exact ⟨x_nilm, x_nilm, x_nilm, x_nilm, x_nilm, x_nilm, x_nilm, x_nilm, x_nilm, x_nilm, x_nilm⟩
set_option maxRecDepth 1000000 in
theorem xm75 : x_Met vwCl x_G x_Zs x_Tb x_Nb xM75 := x_main xT75 [] [] 2500 (by decide +kernel) (by decide +kernel) xk75 (by decide +kernel)
/-- TwinFires$Rows.ofFires(I)I -/
def xM76 : xM := (⟨"TwinFires$Rows", "ofFires", "(I)I"⟩, prog_7_method_4_code, 4, some .int, [xR false [8], xF], [([xR false [8], xF], some (xF))], [], (1, 20, 0, 0), none)
def xT76 : xTab := ([(9, 8, 0), (27, 8, 1)], [], [], [], [], [], [], [(1, 37, 1, none, xM71)], [], [], [])
set_option maxRecDepth 100000 in
set_option maxHeartbeats 4000000 in
theorem xk76 : x_TOK vwCl x_G x_Zs x_Tb x_Nb xM76 xT76 := by
  intro p l e s m args below meth c D U hx hb hml hts hown hK hK0 hU hnm hN
  have X : x_cx p s m args c D U xM76.2.1 xM76.2.2.1 vwCl x_Tb x_Nb xM76.1.cls := ⟨hx, hb, hml, hown, hts, hK, hK0, hU, hN, x_Tb_good, x_Nb_ok⟩
  exact ⟨(x_cons (fl135 hts) (x_cons (fl136 hts) x_nilm)), x_nilm, x_nilm, x_nilm, x_nilm, x_nilm, x_nilm, (x_cons (x_cokS X xm71 (x_cons (x_bw44 9 rfl rfl) (x_cons (x_bw43 2 rfl rfl) (x_cons (x_bw1 5 rfl rfl) x_nilm))) (x_bw43 3 rfl rfl) (by decide +kernel) ⟨Nat.le_of_ble_eq_true rfl, Nat.le_of_ble_eq_true rfl⟩) x_nilm), x_nilm, x_nilm, x_nilm⟩
set_option maxRecDepth 1000000 in
theorem xm76 : x_Met vwCl x_G x_Zs x_Tb x_Nb xM76 := x_main xT76 [(4, ([(0, xR false [8]), (1, xF), (2, xF), (3, xI 0 1024)], [], []), (3, true), [], false, 0, [])] [] 2500 (by decide +kernel) (by decide +kernel) xk76 (by decide +kernel)
/-- TwinFires.isWithin(III)Z -/
def xM79 : xM := (⟨"TwinFires", "isWithin", "(III)Z"⟩, prog_1_method_43_code, 3, some .boolean, [xF, xI 0 0, xF], [([xI 0 2147483647, xI 0 0, xI 0 2147483647], some (xI 1 1)), ([xF, xI 0 0, xF], some (xI 0 0))], [], (0, 0, 0, 0), none)
def xT79 : xTab := ([], [], [], [], [], [], [], [], [], [], [])
set_option maxRecDepth 100000 in
set_option maxHeartbeats 4000000 in
theorem xk79 : x_TOK vwCl x_G x_Zs x_Tb x_Nb xM79 xT79 := by
  intro p l e s m args below meth c D U hx hb hml hts hown hK hK0 hU hnm hN
  have X : x_cx p s m args c D U xM79.2.1 xM79.2.2.1 vwCl x_Tb x_Nb xM79.1.cls := ⟨hx, hb, hml, hown, hts, hK, hK0, hU, hN, x_Tb_good, x_Nb_ok⟩
  exact ⟨x_nilm, x_nilm, x_nilm, x_nilm, x_nilm, x_nilm, x_nilm, x_nilm, x_nilm, x_nilm, x_nilm⟩
set_option maxRecDepth 1000000 in
theorem xm79 : x_Met vwCl x_G x_Zs x_Tb x_Nb xM79 := x_main xT79 [] [] 2500 (by decide +kernel) (by decide +kernel) xk79 (by decide +kernel)
/-- TwinFires.isLawfulIn(II)Z -/
def xM81 : xM := (⟨"TwinFires", "isLawfulIn", "(II)Z"⟩, prog_1_method_51_code, 3, some .boolean, [xR false [0], xI 0 11, xF], [([xR false [0], xI 0 11, xF], some (xI 1 1)), ([xR false [0], xI 0 11, xF], some (xI 0 0))], [(32, 0)], (2, 50, 0, 0), none)
def xT81 : xTab := ([(12, 0, 0), (33, 0, 4), (207, 2, 11)], [], [], [], [], [], [], [(0, 172, 2, some 6, xM72), (0, 204, 4, some 6, xM51)], [], [], [])
set_option maxRecDepth 100000 in
set_option maxHeartbeats 4000000 in
theorem xk81 : x_TOK vwCl x_G x_Zs x_Tb x_Nb xM81 xT81 := by
  intro p l e s m args below meth c D U hx hb hml hts hown hK hK0 hU hnm hN
  have X : x_cx p s m args c D U xM81.2.1 xM81.2.2.1 vwCl x_Tb x_Nb xM81.1.cls := ⟨hx, hb, hml, hown, hts, hK, hK0, hU, hN, x_Tb_good, x_Nb_ok⟩
  exact ⟨(x_cons (fl8 hts) (x_cons (fl102 hts) (x_cons (fl137 hts) x_nilm))), x_nilm, x_nilm, x_nilm, x_nilm, x_nilm, x_nilm, (x_cons (x_cokV (ci := 0) X xm72 rfl rfl rfl (x_cons (x_bw42 10 rfl rfl) (x_cons (x_bw42 11 rfl rfl) (x_cons (x_bw42 12 rfl rfl) (x_cons (x_bw0 6 rfl rfl) x_nilm)))) (x_bw42 13 rfl rfl) (by decide +kernel) ⟨Nat.le_of_ble_eq_true rfl, Nat.le_of_ble_eq_true rfl⟩) (x_cons (x_cokV (ci := 0) X xm51 rfl rfl rfl (x_cons (x_bw32 11 rfl rfl) (x_cons (x_bw32 12 rfl rfl) (x_cons (x_bw32 13 rfl rfl) (x_cons (x_bw0 6 rfl rfl) x_nilm)))) (x_bw32 14 rfl rfl) (by decide +kernel) ⟨Nat.le_of_ble_eq_true rfl, Nat.le_of_ble_eq_true rfl⟩) x_nilm)), x_nilm, x_nilm, x_nilm⟩
set_option maxRecDepth 1000000 in
theorem xm81 : x_Met vwCl x_G x_Zs x_Tb x_Nb xM81 := x_main xT81 [] [] 2500 (by decide +kernel) (by decide +kernel) xk81 (by decide +kernel)
/-- TwinFires.hours(I)I -/
def xM82 : xM := (⟨"TwinFires", "hours", "(I)I"⟩, prog_1_method_19_code, 4, some .int, [xR false [0], xF], [([xR false [0], xF], some (xF))], [(10, 0), (10, 1), (10, 2), (10, 3), (10, 4), (10, 5), (10, 6), (10, 7), (32, 0), (33, 0), (34, 0), (42, 0)], (5, 118, 0, 0), none)
def xT82 : xTab := ([(12, 0, 0), (33, 0, 4), (95, 2, 10)], [], [], [], [], [], [], [(0, 59, 2, some 0, xM8), (0, 169, 2, some 2, xM67), (0, 200, 3, some 6, xM49), (0, 210, 3, some 0, xM81)], [], [], [])
set_option maxRecDepth 100000 in
set_option maxHeartbeats 4000000 in
theorem xk82 : x_TOK vwCl x_G x_Zs x_Tb x_Nb xM82 xT82 := by
  intro p l e s m args below meth c D U hx hb hml hts hown hK hK0 hU hnm hN
  have X : x_cx p s m args c D U xM82.2.1 xM82.2.2.1 vwCl x_Tb x_Nb xM82.1.cls := ⟨hx, hb, hml, hown, hts, hK, hK0, hU, hN, x_Tb_good, x_Nb_ok⟩
  exact ⟨(x_cons (fl8 hts) (x_cons (fl102 hts) (x_cons (fl58 hts) x_nilm))), x_nilm, x_nilm, x_nilm, x_nilm, x_nilm, x_nilm, (x_cons (x_cokV (ci := 11) X xm8 rfl rfl rfl (x_cons (x_bw19 7 rfl rfl) (x_cons (x_bw19 9 rfl rfl) (x_cons (x_at 1 (by decide +kernel) rfl) (x_cons (x_bw0 1 rfl rfl) x_nilm)))) (x_bw19 10 rfl rfl) (by decide +kernel) ⟨Nat.le_of_ble_eq_true rfl, Nat.le_of_ble_eq_true rfl⟩) (x_cons (x_cokV (ci := 2) X xm67 rfl rfl rfl (x_cons (x_bw42 2 rfl rfl) (x_cons (x_bw42 3 rfl rfl) (x_cons (x_bw42 4 rfl rfl) (x_cons (x_bw0 2 rfl rfl) x_nilm)))) (x_bw42 5 rfl rfl) (by decide +kernel) ⟨Nat.le_of_ble_eq_true rfl, Nat.le_of_ble_eq_true rfl⟩) (x_cons (x_cokV (ci := 0) X xm49 rfl rfl rfl (x_cons (x_bw30 0 rfl rfl) (x_cons (x_bw30 1 rfl rfl) (x_cons (x_bw30 2 rfl rfl) (x_cons (x_bw0 6 rfl rfl) x_nilm)))) (x_bw30 3 rfl rfl) (by decide +kernel) ⟨Nat.le_of_ble_eq_true rfl, Nat.le_of_ble_eq_true rfl⟩) (x_cons (x_cokV (ci := 11) X xm81 rfl rfl rfl (x_cons (x_bw46 0 rfl rfl) (x_cons (x_bw46 2 rfl rfl) (x_cons (x_at 14 (by decide +kernel) rfl) (x_cons (x_bw0 1 rfl rfl) x_nilm)))) (x_bw46 3 rfl rfl) (by decide +kernel) ⟨Nat.le_of_ble_eq_true rfl, Nat.le_of_ble_eq_true rfl⟩) x_nilm)))), x_nilm, x_nilm, x_nilm⟩
set_option maxRecDepth 1000000 in
theorem xm82 : x_Met vwCl x_G x_Zs x_Tb x_Nb xM82 := x_main xT82 [(42, ([(0, xR false [0]), (1, xI 0 1023), (2, xI 0 2147483647), (3, xI 0 12)], [], [(0, 11, 4, xR false [6]), (0, 11, 0, xR false [2])]), (3, true), [], false, 0, [])] [] 2500 (by decide +kernel) (by decide +kernel) xk82 (by decide +kernel)
/-- TwinFires$Land.workable()I -/
def xM83 : xM := (⟨"TwinFires$Land", "workable", "()I"⟩, prog_4_method_15_code, 3, some .int, [xR false [2]], [([xR false [2]], some (xI 0 255))], [], (1, 20, 0, 0), none)
def xT83 : xTab := ([(29, 2, 7), (33, 2, 8), (73, 2, 6)], [], [], [], [], [], [], [(0, 129, 1, some 11, xM26), (0, 129, 1, some 12, xM27), (0, 129, 1, some 13, xM27), (0, 129, 1, some 14, xM27), (0, 129, 1, some 15, xM27), (0, 129, 1, some 16, xM28)], [], [], [])
set_option maxRecDepth 100000 in
set_option maxHeartbeats 4000000 in
theorem xk83 : x_TOK vwCl x_G x_Zs x_Tb x_Nb xM83 xT83 := by
  intro p l e s m args below meth c D U hx hb hml hts hown hK hK0 hU hnm hN
  have X : x_cx p s m args c D U xM83.2.1 xM83.2.2.1 vwCl x_Tb x_Nb xM83.1.cls := ⟨hx, hb, hml, hown, hts, hK, hK0, hU, hN, x_Tb_good, x_Nb_ok⟩
  exact ⟨(x_cons (fl39 hts) (x_cons (fl40 hts) (x_cons (fl42 hts) x_nilm))), x_nilm, x_nilm, x_nilm, x_nilm, x_nilm, x_nilm, (x_cons (x_cokV (ci := 6) X xm26 rfl rfl rfl (x_cons (x_bw47 0 rfl rfl) (x_cons (x_bw25 9 rfl rfl) (x_cons (x_bw25 10 rfl rfl) (x_cons (x_bw0 4 rfl rfl) x_nilm)))) (x_bw26 5 rfl rfl) (by decide +kernel) ⟨Nat.le_of_ble_eq_true rfl, Nat.le_of_ble_eq_true rfl⟩) (x_cons (x_cokO (ci := 10) (x := ⟨"TwinFires$Stone", "isWorkable", "()Z"⟩) (b0 := prog_8_method_3_code) (m0 := 1) (r0 := some .boolean) X xm27 rfl rfl (x_bw26 5 rfl rfl) (x_cons (x_bw47 0 rfl rfl) (x_cons (x_bw25 11 rfl rfl) (x_cons (x_bw25 9 rfl rfl) (x_cons (x_bw26 4 rfl rfl) (x_cons (x_bw25 13 rfl rfl) (x_cons (x_bw0 10 rfl rfl) x_nilm)))))) (x_bw25 14 rfl rfl) (by decide +kernel) ⟨Nat.le_of_ble_eq_true rfl, Nat.le_of_ble_eq_true rfl⟩) (x_cons (x_cokO (ci := 4) (x := ⟨"TwinFires$Stone", "isWorkable", "()Z"⟩) (b0 := prog_8_method_3_code) (m0 := 1) (r0 := some .boolean) X xm27 rfl rfl (x_bw26 5 rfl rfl) (x_cons (x_bw47 0 rfl rfl) (x_cons (x_bw25 11 rfl rfl) (x_cons (x_bw25 9 rfl rfl) (x_cons (x_bw25 15 rfl rfl) (x_cons (x_bw25 13 rfl rfl) (x_cons (x_bw0 10 rfl rfl) x_nilm)))))) (x_bw25 14 rfl rfl) (by decide +kernel) ⟨Nat.le_of_ble_eq_true rfl, Nat.le_of_ble_eq_true rfl⟩) (x_cons (x_cokO (ci := 1) (x := ⟨"TwinFires$Stone", "isWorkable", "()Z"⟩) (b0 := prog_8_method_3_code) (m0 := 1) (r0 := some .boolean) X xm27 rfl rfl (x_bw26 5 rfl rfl) (x_cons (x_bw47 0 rfl rfl) (x_cons (x_bw25 11 rfl rfl) (x_cons (x_bw25 9 rfl rfl) (x_cons (x_bw25 12 rfl rfl) (x_cons (x_bw25 13 rfl rfl) (x_cons (x_bw0 10 rfl rfl) x_nilm)))))) (x_bw25 14 rfl rfl) (by decide +kernel) ⟨Nat.le_of_ble_eq_true rfl, Nat.le_of_ble_eq_true rfl⟩) (x_cons (x_cokO (ci := 8) (x := ⟨"TwinFires$Stone", "isWorkable", "()Z"⟩) (b0 := prog_8_method_3_code) (m0 := 1) (r0 := some .boolean) X xm27 rfl rfl (x_bw26 5 rfl rfl) (x_cons (x_bw47 0 rfl rfl) (x_cons (x_bw25 11 rfl rfl) (x_cons (x_bw25 9 rfl rfl) (x_cons (x_bw26 0 rfl rfl) (x_cons (x_bw25 13 rfl rfl) (x_cons (x_bw0 10 rfl rfl) x_nilm)))))) (x_bw25 14 rfl rfl) (by decide +kernel) ⟨Nat.le_of_ble_eq_true rfl, Nat.le_of_ble_eq_true rfl⟩) (x_cons (x_cokO (ci := 9) (x := ⟨"TwinFires$Stone", "isWorkable", "()Z"⟩) (b0 := prog_8_method_3_code) (m0 := 1) (r0 := some .boolean) X xm28 rfl rfl (x_bw26 5 rfl rfl) (x_cons (x_bw47 0 rfl rfl) (x_cons (x_bw25 11 rfl rfl) (x_cons (x_bw25 9 rfl rfl) (x_cons (x_bw26 1 rfl rfl) (x_cons (x_bw26 2 rfl rfl) (x_cons (x_bw0 14 rfl rfl) x_nilm)))))) (x_bw26 3 rfl rfl) (by decide +kernel) ⟨Nat.le_of_ble_eq_true rfl, Nat.le_of_ble_eq_true rfl⟩) x_nilm)))))), x_nilm, x_nilm, x_nilm⟩
set_option maxRecDepth 1000000 in
theorem xm83 : x_Met vwCl x_G x_Zs x_Tb x_Nb xM83 := x_main xT83 [(4, ([(0, xR false [2]), (1, xI 0 255), (2, xI 0 8)], [], []), (2, true), [], false, 0, [])] [] 2500 (by decide +kernel) (by decide +kernel) xk83 (by decide +kernel)
/-- TwinFires$Land.price(IZ)I -/
def xM84 : xM := (⟨"TwinFires$Land", "price", "(IZ)I"⟩, prog_4_method_16_code, 5, some .int, [xR false [2], xF, xI 0 1], [([xR false [2], xF, xI 0 1], some (xF))], [], (1, 21, 0, 0), none)
def xT84 : xTab := ([(36, 2, 9), (73, 2, 6)], [], [], [], [], [], [], [(1, 133, 2, none, xM70)], [], [], [])
set_option maxRecDepth 100000 in
set_option maxHeartbeats 4000000 in
theorem xk84 : x_TOK vwCl x_G x_Zs x_Tb x_Nb xM84 xT84 := by
  intro p l e s m args below meth c D U hx hb hml hts hown hK hK0 hU hnm hN
  have X : x_cx p s m args c D U xM84.2.1 xM84.2.2.1 vwCl x_Tb x_Nb xM84.1.cls := ⟨hx, hb, hml, hown, hts, hK, hK0, hU, hN, x_Tb_good, x_Nb_ok⟩
  exact ⟨(x_cons (fl41 hts) (x_cons (fl42 hts) x_nilm)), x_nilm, x_nilm, x_nilm, x_nilm, x_nilm, x_nilm, (x_cons (x_cokSN (host := "TwinFires") X xm70 (x_cons (x_bw42 15 rfl rfl) (x_cons (x_bw0 1 rfl rfl) x_nilm)) (x_bn47 5 rfl rfl) (x_bw43 0 rfl rfl) (by decide +kernel) ⟨Nat.le_of_ble_eq_true rfl, Nat.le_of_ble_eq_true rfl⟩) x_nilm), x_nilm, x_nilm, x_nilm⟩
set_option maxRecDepth 1000000 in
theorem xm84 : x_Met vwCl x_G x_Zs x_Tb x_Nb xM84 := x_main xT84 [(5, ([(0, xR false [2]), (1, xF), (2, xI 0 1), (3, xF), (4, xI 0 8)], [], []), (4, true), [], false, 0, [])] [] 2500 (by decide +kernel) (by decide +kernel) xk84 (by decide +kernel)
/-- TwinFires.worksFor(IIZ)I -/
def xM85 : xM := (⟨"TwinFires", "worksFor", "(IIZ)I"⟩, prog_1_method_52_code, 9, some .int, [xR false [0], xF, xF, xI 0 1], [([xR false [0], xF, xF, xI 0 1], some (xF))], [(10, 0), (10, 1), (10, 2), (10, 3), (10, 4), (10, 5), (10, 6), (10, 7), (32, 0), (33, 0), (34, 0), (42, 0)], (5, 118, 0, 0), none)
def xT85 : xTab := ([(12, 0, 0), (33, 0, 4), (95, 2, 10)], [], [], [], [], [], [], [(1, 88, 3, none, xM69), (0, 59, 2, some 0, xM8), (0, 169, 2, some 2, xM67), (0, 172, 2, some 6, xM72), (0, 200, 3, some 6, xM49), (0, 204, 4, some 6, xM51), (0, 320, 1, some 2, xM83), (0, 323, 3, some 2, xM84)], [], [], [])
set_option maxRecDepth 100000 in
set_option maxHeartbeats 4000000 in
theorem xk85 : x_TOK vwCl x_G x_Zs x_Tb x_Nb xM85 xT85 := by
  intro p l e s m args below meth c D U hx hb hml hts hown hK hK0 hU hnm hN
  have X : x_cx p s m args c D U xM85.2.1 xM85.2.2.1 vwCl x_Tb x_Nb xM85.1.cls := ⟨hx, hb, hml, hown, hts, hK, hK0, hU, hN, x_Tb_good, x_Nb_ok⟩
  exact ⟨(x_cons (fl8 hts) (x_cons (fl102 hts) (x_cons (fl58 hts) x_nilm))), x_nilm, x_nilm, x_nilm, x_nilm, x_nilm, x_nilm, (x_cons (x_cokS X xm69 (x_cons (x_bw19 15 rfl rfl) (x_cons (x_bw19 1 rfl rfl) (x_cons (x_bw0 1 rfl rfl) x_nilm))) (x_bw19 2 rfl rfl) (by decide +kernel) ⟨Nat.le_of_ble_eq_true rfl, Nat.le_of_ble_eq_true rfl⟩) (x_cons (x_cokV (ci := 11) X xm8 rfl rfl rfl (x_cons (x_bw19 7 rfl rfl) (x_cons (x_bw19 9 rfl rfl) (x_cons (x_at 1 (by decide +kernel) rfl) (x_cons (x_bw0 1 rfl rfl) x_nilm)))) (x_bw19 10 rfl rfl) (by decide +kernel) ⟨Nat.le_of_ble_eq_true rfl, Nat.le_of_ble_eq_true rfl⟩) (x_cons (x_cokV (ci := 2) X xm67 rfl rfl rfl (x_cons (x_bw42 2 rfl rfl) (x_cons (x_bw42 3 rfl rfl) (x_cons (x_bw42 4 rfl rfl) (x_cons (x_bw0 2 rfl rfl) x_nilm)))) (x_bw42 5 rfl rfl) (by decide +kernel) ⟨Nat.le_of_ble_eq_true rfl, Nat.le_of_ble_eq_true rfl⟩) (x_cons (x_cokV (ci := 0) X xm72 rfl rfl rfl (x_cons (x_bw42 10 rfl rfl) (x_cons (x_bw42 11 rfl rfl) (x_cons (x_bw42 12 rfl rfl) (x_cons (x_bw0 6 rfl rfl) x_nilm)))) (x_bw42 13 rfl rfl) (by decide +kernel) ⟨Nat.le_of_ble_eq_true rfl, Nat.le_of_ble_eq_true rfl⟩) (x_cons (x_cokV (ci := 0) X xm49 rfl rfl rfl (x_cons (x_bw30 0 rfl rfl) (x_cons (x_bw30 1 rfl rfl) (x_cons (x_bw30 2 rfl rfl) (x_cons (x_bw0 6 rfl rfl) x_nilm)))) (x_bw30 3 rfl rfl) (by decide +kernel) ⟨Nat.le_of_ble_eq_true rfl, Nat.le_of_ble_eq_true rfl⟩) (x_cons (x_cokV (ci := 0) X xm51 rfl rfl rfl (x_cons (x_bw32 11 rfl rfl) (x_cons (x_bw32 12 rfl rfl) (x_cons (x_bw32 13 rfl rfl) (x_cons (x_bw0 6 rfl rfl) x_nilm)))) (x_bw32 14 rfl rfl) (by decide +kernel) ⟨Nat.le_of_ble_eq_true rfl, Nat.le_of_ble_eq_true rfl⟩) (x_cons (x_cokV (ci := 2) X xm83 rfl rfl rfl (x_cons (x_bw46 12 rfl rfl) (x_cons (x_bw46 13 rfl rfl) (x_cons (x_bw46 14 rfl rfl) (x_cons (x_bw0 2 rfl rfl) x_nilm)))) (x_bw46 15 rfl rfl) (by decide +kernel) ⟨Nat.le_of_ble_eq_true rfl, Nat.le_of_ble_eq_true rfl⟩) (x_cons (x_cokV (ci := 2) X xm84 rfl rfl rfl (x_cons (x_bw47 1 rfl rfl) (x_cons (x_bw47 2 rfl rfl) (x_cons (x_bw47 3 rfl rfl) (x_cons (x_bw0 2 rfl rfl) x_nilm)))) (x_bw47 4 rfl rfl) (by decide +kernel) ⟨Nat.le_of_ble_eq_true rfl, Nat.le_of_ble_eq_true rfl⟩) x_nilm)))))))), x_nilm, x_nilm, x_nilm⟩
set_option maxRecDepth 1000000 in
theorem xm85 : x_Met vwCl x_G x_Zs x_Tb x_Nb xM85 := x_main xT85 [(65, ([(0, xR false [0]), (1, xI 0 1023), (2, xI 0 1), (3, xI 0 1), (4, xI 0 255), (5, xI (-1) 255), (6, xF), (7, xI 0 319)], [], [(0, 11, 4, xR false [6]), (0, 11, 0, xR false [2])]), (7, true), [], false, 0, [])] [] 2500 (by decide +kernel) (by decide +kernel) xk85 (by decide +kernel)
/-- TwinFires.fewest(II)I -/
def xM86 : xM := (⟨"TwinFires", "fewest", "(II)I"⟩, prog_1_method_20_code, 3, some .int, [xR false [0], xF, xF], [([xR false [0], xF, xF], some (xF))], [(10, 0), (10, 1), (10, 2), (10, 3), (10, 4), (10, 5), (10, 6), (10, 7), (32, 0), (33, 0), (34, 0), (42, 0)], (6, 146, 0, 0), none)
def xT86 : xTab := ([], [], [], [], [], [], [], [(0, 213, 4, some 0, xM85)], [], [], [])
set_option maxRecDepth 100000 in
set_option maxHeartbeats 4000000 in
theorem xk86 : x_TOK vwCl x_G x_Zs x_Tb x_Nb xM86 xT86 := by
  intro p l e s m args below meth c D U hx hb hml hts hown hK hK0 hU hnm hN
  have X : x_cx p s m args c D U xM86.2.1 xM86.2.2.1 vwCl x_Tb x_Nb xM86.1.cls := ⟨hx, hb, hml, hown, hts, hK, hK0, hU, hN, x_Tb_good, x_Nb_ok⟩
  exact ⟨x_nilm, x_nilm, x_nilm, x_nilm, x_nilm, x_nilm, x_nilm, (x_cons (x_cokV (ci := 11) X xm85 rfl rfl rfl (x_cons (x_bw46 8 rfl rfl) (x_cons (x_bw46 10 rfl rfl) (x_cons (x_at 15 (by decide +kernel) rfl) (x_cons (x_bw0 1 rfl rfl) x_nilm)))) (x_bw46 11 rfl rfl) (by decide +kernel) ⟨Nat.le_of_ble_eq_true rfl, Nat.le_of_ble_eq_true rfl⟩) x_nilm), x_nilm, x_nilm, x_nilm⟩
set_option maxRecDepth 1000000 in
theorem xm86 : x_Met vwCl x_G x_Zs x_Tb x_Nb xM86 := x_main xT86 [] [] 2500 (by decide +kernel) (by decide +kernel) xk86 (by decide +kernel)
/-- TwinFires.cheapest(II)I -/
def xM87 : xM := (⟨"TwinFires", "cheapest", "(II)I"⟩, prog_1_method_21_code, 3, some .int, [xR false [0], xF, xF], [([xR false [0], xF, xF], some (xF))], [(10, 0), (10, 1), (10, 2), (10, 3), (10, 4), (10, 5), (10, 6), (10, 7), (32, 0), (33, 0), (34, 0), (42, 0)], (6, 146, 0, 0), none)
def xT87 : xTab := ([], [], [], [], [], [], [], [(0, 213, 4, some 0, xM85)], [], [], [])
set_option maxRecDepth 100000 in
set_option maxHeartbeats 4000000 in
theorem xk87 : x_TOK vwCl x_G x_Zs x_Tb x_Nb xM87 xT87 := by
  intro p l e s m args below meth c D U hx hb hml hts hown hK hK0 hU hnm hN
  have X : x_cx p s m args c D U xM87.2.1 xM87.2.2.1 vwCl x_Tb x_Nb xM87.1.cls := ⟨hx, hb, hml, hown, hts, hK, hK0, hU, hN, x_Tb_good, x_Nb_ok⟩
  exact ⟨x_nilm, x_nilm, x_nilm, x_nilm, x_nilm, x_nilm, x_nilm, (x_cons (x_cokV (ci := 11) X xm85 rfl rfl rfl (x_cons (x_bw46 8 rfl rfl) (x_cons (x_bw46 10 rfl rfl) (x_cons (x_at 15 (by decide +kernel) rfl) (x_cons (x_bw0 1 rfl rfl) x_nilm)))) (x_bw46 11 rfl rfl) (by decide +kernel) ⟨Nat.le_of_ble_eq_true rfl, Nat.le_of_ble_eq_true rfl⟩) x_nilm), x_nilm, x_nilm, x_nilm⟩
set_option maxRecDepth 1000000 in
theorem xm87 : x_Met vwCl x_G x_Zs x_Tb x_Nb xM87 := x_main xT87 [] [] 2500 (by decide +kernel) (by decide +kernel) xk87 (by decide +kernel)
/-- TwinFires$Line.lifted(IIII)I -/
def xM88 : xM := (⟨"TwinFires$Line", "lifted", "(IIII)I"⟩, prog_5_method_8_code, 5, some .int, [xR false [10], xF, xF, xF, xF], [([xR false [10], xF, xF, xF, xF], some (xF))], [(10, 5)], (3, 68, 0, 0), none)
def xT88 : xTab := ([(52, 10, 5)], [(52, 10, 5)], [], [], [], [], [], [(0, 72, 3, some 10, xM44), (0, 75, 4, some 10, xM46)], [], [], [])
set_option maxRecDepth 100000 in
set_option maxHeartbeats 4000000 in
theorem xk88 : x_TOK vwCl x_G x_Zs x_Tb x_Nb xM88 xT88 := by
  intro p l e s m args below meth c D U hx hb hml hts hown hK hK0 hU hnm hN
  have X : x_cx p s m args c D U xM88.2.1 xM88.2.2.1 vwCl x_Tb x_Nb xM88.1.cls := ⟨hx, hb, hml, hown, hts, hK, hK0, hU, hN, x_Tb_good, x_Nb_ok⟩
  exact ⟨(x_cons (fl77 hts) x_nilm), (x_cons (fw72 hts) x_nilm), x_nilm, x_nilm, x_nilm, x_nilm, x_nilm, (x_cons (x_cokV (ci := 3) X xm44 rfl rfl rfl (x_cons (x_bw48 10 rfl rfl) (x_cons (x_bw31 3 rfl rfl) (x_cons (x_bw31 4 rfl rfl) (x_cons (x_bw0 7 rfl rfl) x_nilm)))) (x_bw31 5 rfl rfl) (by decide +kernel) ⟨Nat.le_of_ble_eq_true rfl, Nat.le_of_ble_eq_true rfl⟩) (x_cons (x_cokV (ci := 3) X xm46 rfl rfl rfl (x_cons (x_bw48 11 rfl rfl) (x_cons (x_bw31 15 rfl rfl) (x_cons (x_bw32 0 rfl rfl) (x_cons (x_bw0 7 rfl rfl) x_nilm)))) (x_bw32 1 rfl rfl) (by decide +kernel) ⟨Nat.le_of_ble_eq_true rfl, Nat.le_of_ble_eq_true rfl⟩) x_nilm)), x_nilm, x_nilm, x_nilm⟩
set_option maxRecDepth 1000000 in
theorem xm88 : x_Met vwCl x_G x_Zs x_Tb x_Nb xM88 := x_main xT88 [(15, ([(0, xR false [10]), (1, xF), (2, xF), (3, xF), (4, xF)], [], [(0, 3, 5, xF)]), (5, true), [], false, 0, [(0, 5)])] [] 2500 (by decide +kernel) (by decide +kernel) xk88 (by decide +kernel)
/-- TwinFires$Eyes.towerTo(LTwinFires$Land;III)I -/
def xM89 : xM := (⟨"TwinFires$Eyes", "towerTo", "(LTwinFires$Land;III)I"⟩, prog_2_method_9_code, 8, some .int, [xR false [6], xR false [2], xI 0 9, xI 0 9, xF], [([xR false [6], xR false [2], xI 0 9, xI 0 9, xF], some (xF))], [(10, 0), (10, 1), (10, 2), (10, 3), (10, 4), (10, 5), (10, 6), (10, 7)], (4, 92, 0, 0), none)
def xT89 : xTab := ([(12, 6, 0), (28, 2, 0), (45, 2, 1), (48, 2, 2), (55, 2, 3), (62, 2, 6), (65, 2, 7), (69, 11, 1), (69, 12, 1), (69, 13, 1), (69, 14, 1), (69, 15, 1), (69, 16, 1), (73, 11, 2), (73, 12, 2), (73, 13, 2), (73, 14, 2), (73, 15, 2), (73, 16, 2), (97, 2, 10)], [], [], [], [], [], [], [(0, 34, 4, some 10, xM41), (0, 104, 5, some 10, xM88), (0, 108, 3, some 2, xM38)], [], [], [])
set_option maxRecDepth 100000 in
set_option maxHeartbeats 4000000 in
theorem xk89 : x_TOK vwCl x_G x_Zs x_Tb x_Nb xM89 xT89 := by
  intro p l e s m args below meth c D U hx hb hml hts hown hK hK0 hU hnm hN
  have X : x_cx p s m args c D U xM89.2.1 xM89.2.2.1 vwCl x_Tb x_Nb xM89.1.cls := ⟨hx, hb, hml, hown, hts, hK, hK0, hU, hN, x_Tb_good, x_Nb_ok⟩
  exact ⟨(x_cons (fl79 hts) (x_cons (fl80 hts) (x_cons (fl81 hts) (x_cons (fl82 hts) (x_cons (fl83 hts) (x_cons (fl86 hts) (x_cons (fl87 hts) (x_cons (fl88 hts) (x_cons (fl89 hts) (x_cons (fl90 hts) (x_cons (fl91 hts) (x_cons (fl92 hts) (x_cons (fl93 hts) (x_cons (fl94 hts) (x_cons (fl95 hts) (x_cons (fl96 hts) (x_cons (fl97 hts) (x_cons (fl98 hts) (x_cons (fl99 hts) (x_cons (fl138 hts) x_nilm)))))))))))))))))))), x_nilm, x_nilm, x_nilm, x_nilm, x_nilm, x_nilm, (x_cons (x_cokV (ci := 3) X xm41 rfl rfl rfl (x_cons (x_bw30 4 rfl rfl) (x_cons (x_bw30 5 rfl rfl) (x_cons (x_bw30 6 rfl rfl) (x_cons (x_bw0 7 rfl rfl) x_nilm)))) (x_bw30 7 rfl rfl) (by decide +kernel) ⟨Nat.le_of_ble_eq_true rfl, Nat.le_of_ble_eq_true rfl⟩) (x_cons (x_cokV (ci := 3) X xm88 rfl rfl rfl (x_cons (x_bw48 6 rfl rfl) (x_cons (x_bw48 7 rfl rfl) (x_cons (x_bw48 8 rfl rfl) (x_cons (x_bw0 7 rfl rfl) x_nilm)))) (x_bw48 9 rfl rfl) (by decide +kernel) ⟨Nat.le_of_ble_eq_true rfl, Nat.le_of_ble_eq_true rfl⟩) (x_cons (x_cokV (ci := 2) X xm38 rfl rfl rfl (x_cons (x_bw48 12 rfl rfl) (x_cons (x_bw26 15 rfl rfl) (x_cons (x_bw27 0 rfl rfl) (x_cons (x_bw0 2 rfl rfl) x_nilm)))) (x_bw27 1 rfl rfl) (by decide +kernel) ⟨Nat.le_of_ble_eq_true rfl, Nat.le_of_ble_eq_true rfl⟩) x_nilm))), x_nilm, x_nilm, x_nilm⟩
set_option maxRecDepth 1000000 in
theorem xm89 : x_Met vwCl x_G x_Zs x_Tb x_Nb xM89 := x_main xT89 [(17, ([(0, xR false [6]), (1, xR false [2]), (2, xI 0 9), (3, xI 0 9), (4, xF), (5, xF), (6, xI 0 10)], [], [(0, 0, 0, xR false [10])]), (6, true), [], false, 0, []), (79, ([(0, xR false [6]), (1, xR false [2]), (2, xI 0 9), (3, xI 0 9), (4, xF), (5, xF), (6, xI 0 8)], [], [(1, 2, 0, xI 0 10), (0, 0, 0, xR false [10])]), (6, true), [], false, 0, [])] [] 2500 (by decide +kernel) (by decide +kernel) xk89 (by decide +kernel)
/-- TwinFires$Eyes.leastTower(LTwinFires$Land;I)I -/
def xM90 : xM := (⟨"TwinFires$Eyes", "leastTower", "(LTwinFires$Land;I)I"⟩, prog_2_method_8_code, 6, some .int, [xR false [6], xR false [2], xI 0 9], [([xR false [6], xR false [2], xI 0 9], some (xI (-2147483648) 99))], [(10, 0), (10, 1), (10, 2), (10, 3), (10, 4), (10, 5), (10, 6), (10, 7)], (5, 119, 0, 0), none)
def xT90 : xTab := ([(28, 2, 0), (55, 2, 3), (97, 2, 10)], [], [], [], [], [], [], [(0, 100, 5, some 6, xM89)], [], [], [])
set_option maxRecDepth 100000 in
set_option maxHeartbeats 4000000 in
theorem xk90 : x_TOK vwCl x_G x_Zs x_Tb x_Nb xM90 xT90 := by
  intro p l e s m args below meth c D U hx hb hml hts hown hK hK0 hU hnm hN
  have X : x_cx p s m args c D U xM90.2.1 xM90.2.2.1 vwCl x_Tb x_Nb xM90.1.cls := ⟨hx, hb, hml, hown, hts, hK, hK0, hU, hN, x_Tb_good, x_Nb_ok⟩
  exact ⟨(x_cons (fl80 hts) (x_cons (fl83 hts) (x_cons (fl138 hts) x_nilm))), x_nilm, x_nilm, x_nilm, x_nilm, x_nilm, x_nilm, (x_cons (x_cokV (ci := 0) X xm89 rfl rfl rfl (x_cons (x_bw48 2 rfl rfl) (x_cons (x_bw48 4 rfl rfl) (x_cons (x_at 16 (by decide +kernel) rfl) (x_cons (x_bw0 6 rfl rfl) x_nilm)))) (x_bw48 5 rfl rfl) (by decide +kernel) ⟨Nat.le_of_ble_eq_true rfl, Nat.le_of_ble_eq_true rfl⟩) x_nilm), x_nilm, x_nilm, x_nilm⟩
set_option maxRecDepth 1000000 in
theorem xm90 : x_Met vwCl x_G x_Zs x_Tb x_Nb xM90 := x_main xT90 [(25, ([(0, xR false [6]), (1, xR false [2]), (2, xI 0 9), (3, xF), (4, xF), (5, xI 0 10)], [], [(1, 2, 0, xI 0 10), (1, 2, 10, xR false [27])]), (5, true), [], false, 0, [])] [] 2500 (by decide +kernel) (by decide +kernel) xk90 (by decide +kernel)

