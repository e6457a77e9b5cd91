/-- TwinFires.tower(I)I -/
def xM91 : xM := (⟨"TwinFires", "tower", "(I)I"⟩, prog_1_method_22_code, 2, some .int, [xR false [0], xF], [([xR false [0], xF], some (xF))], [(10, 0), (10, 1), (10, 2), (10, 3), (10, 4), (10, 5), (10, 6), (10, 7), (42, 0)], (6, 144, 0, 0), none)
def xT91 : xTab := ([(12, 0, 0), (33, 0, 4)], [], [], [], [], [], [], [(0, 59, 2, some 0, xM8), (0, 101, 2, some 2, xM40), (0, 217, 3, some 6, xM90)], [], [], [])
set_option maxRecDepth 100000 in
set_option maxHeartbeats 4000000 in
theorem xk91 : x_TOK vwCl x_G x_Zs x_Tb x_Nb xM91 xT91 := by
  intro p l e s m args below meth c D U hx hb hml hts hown hK hK0 hU hnm hN
  have X : x_cx p s m args c D U xM91.2.1 xM91.2.2.1 vwCl x_Tb x_Nb xM91.1.cls := ⟨hx, hb, hml, hown, hts, hK, hK0, hU, hN, x_Tb_good, x_Nb_ok⟩
  exact ⟨(x_cons (fl8 hts) (x_cons (fl102 hts) x_nilm)), x_nilm, x_nilm, x_nilm, x_nilm, x_nilm, x_nilm, (x_cons (x_cokV (ci := 11) X xm8 rfl rfl rfl (x_cons (x_bw19 7 rfl rfl) (x_cons (x_bw19 9 rfl rfl) (x_cons (x_at 1 (by decide +kernel) rfl) (x_cons (x_bw0 1 rfl rfl) x_nilm)))) (x_bw19 10 rfl rfl) (by decide +kernel) ⟨Nat.le_of_ble_eq_true rfl, Nat.le_of_ble_eq_true rfl⟩) (x_cons (x_cokV (ci := 2) X xm40 rfl rfl rfl (x_cons (x_bw29 8 rfl rfl) (x_cons (x_bw29 9 rfl rfl) (x_cons (x_bw29 10 rfl rfl) (x_cons (x_bw0 2 rfl rfl) x_nilm)))) (x_bw29 11 rfl rfl) (by decide +kernel) ⟨Nat.le_of_ble_eq_true rfl, Nat.le_of_ble_eq_true rfl⟩) (x_cons (x_cokV (ci := 0) X xm90 rfl rfl rfl (x_cons (x_bw47 14 rfl rfl) (x_cons (x_bw47 15 rfl rfl) (x_cons (x_bw48 0 rfl rfl) (x_cons (x_bw0 6 rfl rfl) x_nilm)))) (x_bw48 1 rfl rfl) (by decide +kernel) ⟨Nat.le_of_ble_eq_true rfl, Nat.le_of_ble_eq_true rfl⟩) x_nilm))), x_nilm, x_nilm, x_nilm⟩
set_option maxRecDepth 1000000 in
theorem xm91 : x_Met vwCl x_G x_Zs x_Tb x_Nb xM91 := x_main xT91 [] [] 2500 (by decide +kernel) (by decide +kernel) xk91 (by decide +kernel)
/-- TwinFires.isLawfulNow(I)Z -/
def xM92 : xM := (⟨"TwinFires", "isLawfulNow", "(I)Z"⟩, prog_1_method_50_code, 2, some .boolean, [xR false [0], xF], [([xR false [0], xF], some (xI 1 1)), ([xR false [0], xF], some (xI 0 0))], [], (2, 43, 0, 0), none)
def xT92 : xTab := ([(33, 0, 4)], [], [], [], [], [], [], [(0, 172, 2, some 6, xM72)], [], [], [])
set_option maxRecDepth 100000 in
set_option maxHeartbeats 4000000 in
theorem xk92 : x_TOK vwCl x_G x_Zs x_Tb x_Nb xM92 xT92 := by
  intro p l e s m args below meth c D U hx hb hml hts hown hK hK0 hU hnm hN
  have X : x_cx p s m args c D U xM92.2.1 xM92.2.2.1 vwCl x_Tb x_Nb xM92.1.cls := ⟨hx, hb, hml, hown, hts, hK, hK0, hU, hN, x_Tb_good, x_Nb_ok⟩
  exact ⟨(x_cons (fl102 hts) x_nilm), x_nilm, x_nilm, x_nilm, x_nilm, x_nilm, x_nilm, (x_cons (x_cokV (ci := 0) X xm72 rfl rfl rfl (x_cons (x_bw42 10 rfl rfl) (x_cons (x_bw42 11 rfl rfl) (x_cons (x_bw42 12 rfl rfl) (x_cons (x_bw0 6 rfl rfl) x_nilm)))) (x_bw42 13 rfl rfl) (by decide +kernel) ⟨Nat.le_of_ble_eq_true rfl, Nat.le_of_ble_eq_true rfl⟩) x_nilm), x_nilm, x_nilm, x_nilm⟩
set_option maxRecDepth 1000000 in
theorem xm92 : x_Met vwCl x_G x_Zs x_Tb x_Nb xM92 := x_main xT92 [] [] 2500 (by decide +kernel) (by decide +kernel) xk92 (by decide +kernel)
/-- java/util/Arrays.fill([II)V -/
def xM93 : xM := (⟨"java/util/Arrays", "fill", "([II)V"⟩, prog_21_method_103_code, 4, none, [xR false [36], xI (-1) (-1)], [([xR false [36], xI (-1) (-1)], none)], [(36, 0)], (0, 0, 0, 0), none)
def xT93 : xTab := ([], [], [], [], [], [], [], [], [], [], [])
set_option maxRecDepth 100000 in
set_option maxHeartbeats 4000000 in
theorem xk93 : x_TOK vwCl x_G x_Zs x_Tb x_Nb xM93 xT93 := by
  intro p l e s m args below meth c D U hx hb hml hts hown hK hK0 hU hnm hN
  have X : x_cx p s m args c D U xM93.2.1 xM93.2.2.1 vwCl x_Tb x_Nb xM93.1.cls := ⟨hx, hb, hml, hown, hts, hK, hK0, hU, hN, x_Tb_good, x_Nb_ok⟩
  exact ⟨x_nilm, x_nilm, x_nilm, x_nilm, x_nilm, x_nilm, x_nilm, x_nilm, x_nilm, x_nilm, x_nilm⟩
set_option maxRecDepth 1000000 in
theorem xm93 : x_Met vwCl x_G x_Zs x_Tb x_Nb xM93 := x_main xT93 [(5, ([(0, xR false [36]), (1, xI (-1) (-1)), (2, xI 0 1024), (3, xI 1024 1024)], [], []), (2, true), [], false, 0, [])] [] 2500 (by decide +kernel) (by decide +kernel) xk93 (by decide +kernel)
/-- TwinFires$Rows.isNear(II)Z -/
def xM94 : xM := (⟨"TwinFires$Rows", "isNear", "(II)Z"⟩, prog_7_method_5_code, 2, some .boolean, [xF, xF], [([xF, xF], some (xI 1 1)), ([xF, xF], some (xI 0 0))], [], (1, 20, 0, 0), none)
def xT94 : xTab := ([], [], [], [], [], [], [], [(1, 37, 1, none, xM71)], [], [], [])
set_option maxRecDepth 100000 in
set_option maxHeartbeats 4000000 in
theorem xk94 : x_TOK vwCl x_G x_Zs x_Tb x_Nb xM94 xT94 := by
  intro p l e s m args below meth c D U hx hb hml hts hown hK hK0 hU hnm hN
  have X : x_cx p s m args c D U xM94.2.1 xM94.2.2.1 vwCl x_Tb x_Nb xM94.1.cls := ⟨hx, hb, hml, hown, hts, hK, hK0, hU, hN, x_Tb_good, x_Nb_ok⟩
  exact ⟨x_nilm, x_nilm, x_nilm, x_nilm, x_nilm, x_nilm, x_nilm, (x_cons (x_cokS X xm71 (x_cons (x_bw44 9 rfl rfl) (x_cons (x_bw43 2 rfl rfl) (x_cons (x_bw1 5 rfl rfl) x_nilm))) (x_bw43 3 rfl rfl) (by decide +kernel) ⟨Nat.le_of_ble_eq_true rfl, Nat.le_of_ble_eq_true rfl⟩) x_nilm), x_nilm, x_nilm, x_nilm⟩
set_option maxRecDepth 1000000 in
theorem xm94 : x_Met vwCl x_G x_Zs x_Tb x_Nb xM94 := x_main xT94 [] [] 2500 (by decide +kernel) (by decide +kernel) xk94 (by decide +kernel)
/-- TwinFires$Rows.spreadBehind(I)Z -/
def xM95 : xM := (⟨"TwinFires$Rows", "spreadBehind", "(I)Z"⟩, prog_7_method_7_code, 6, some .boolean, [xR false [8], xF], [([xR false [8], xF], some (xI 0 1))], [(36, 0)], (2, 41, 0, 0), none)
def xT95 : xTab := ([(9, 8, 0), (15, 8, 2), (27, 8, 1)], [], [], [], [], [], [], [(1, 52, 2, none, xM94)], [], [], [])
set_option maxRecDepth 100000 in
set_option maxHeartbeats 4000000 in
theorem xk95 : x_TOK vwCl x_G x_Zs x_Tb x_Nb xM95 xT95 := by
  intro p l e s m args below meth c D U hx hb hml hts hown hK hK0 hU hnm hN
  have X : x_cx p s m args c D U xM95.2.1 xM95.2.2.1 vwCl x_Tb x_Nb xM95.1.cls := ⟨hx, hb, hml, hown, hts, hK, hK0, hU, hN, x_Tb_good, x_Nb_ok⟩
  exact ⟨(x_cons (fl135 hts) (x_cons (fl139 hts) (x_cons (fl136 hts) x_nilm))), x_nilm, x_nilm, x_nilm, x_nilm, x_nilm, x_nilm, (x_cons (x_cokS X xm94 (x_cons (x_bw49 14 rfl rfl) (x_cons (x_bw49 15 rfl rfl) (x_cons (x_bw0 8 rfl rfl) x_nilm))) (x_bw50 0 rfl rfl) (by decide +kernel) ⟨Nat.le_of_ble_eq_true rfl, Nat.le_of_ble_eq_true rfl⟩) x_nilm), x_nilm, x_nilm, x_nilm⟩
set_option maxRecDepth 1000000 in
theorem xm95 : x_Met vwCl x_G x_Zs x_Tb x_Nb xM95 := x_main xT95 [(4, ([(0, xR false [8]), (1, xF), (2, xI 0 1), (3, xI 0 1024)], [], []), (3, true), [], false, 0, []), (33, ([(0, xR false [8]), (1, xF), (2, xI 0 1), (3, xI 0 1023), (4, xI 0 1024)], [], [(0, 5, 0, xR false [35]), (0, 5, 2, xR false [36]), (0, 5, 1, xI 1 1024)]), (4, true), [3], false, 1, [])] [] 2500 (by decide +kernel) (by decide +kernel) xk95 (by decide +kernel)
/-- TwinFires$Rows.spread(I)V -/
def xM96 : xM := (⟨"TwinFires$Rows", "spread", "(I)V"⟩, prog_7_method_6_code, 4, none, [xR false [8], xI 0 1023], [([xR false [8], xI 0 1023], none)], [(36, 0)], (3, 66, 0, 0), none)
def xT96 : xTab := ([(15, 8, 2)], [], [], [], [], [], [], [(1, 42, 2, none, xM93), (0, 48, 2, some 8, xM95)], [], [], [])
set_option maxRecDepth 100000 in
set_option maxHeartbeats 4000000 in
theorem xk96 : x_TOK vwCl x_G x_Zs x_Tb x_Nb xM96 xT96 := by
  intro p l e s m args below meth c D U hx hb hml hts hown hK hK0 hU hnm hN
  have X : x_cx p s m args c D U xM96.2.1 xM96.2.2.1 vwCl x_Tb x_Nb xM96.1.cls := ⟨hx, hb, hml, hown, hts, hK, hK0, hU, hN, x_Tb_good, x_Nb_ok⟩
  exact ⟨(x_cons (fl139 hts) x_nilm), x_nilm, x_nilm, x_nilm, x_nilm, x_nilm, x_nilm, (x_cons (x_cokS X xm93 (x_cons (x_bw49 9 rfl rfl) (x_cons (x_bw2 7 rfl rfl) (x_cons (x_bw0 3 rfl rfl) x_nilm))) (x_bw2 8 rfl rfl) (by decide +kernel) ⟨Nat.le_of_ble_eq_true rfl, Nat.le_of_ble_eq_true rfl⟩) (x_cons (x_cokV (ci := 5) X xm95 rfl rfl rfl (x_cons (x_bw49 10 rfl rfl) (x_cons (x_bw49 12 rfl rfl) (x_cons (x_at 18 (by decide +kernel) rfl) (x_cons (x_bw0 8 rfl rfl) x_nilm)))) (x_bw49 13 rfl rfl) (by decide +kernel) ⟨Nat.le_of_ble_eq_true rfl, Nat.le_of_ble_eq_true rfl⟩) x_nilm)), x_nilm, x_nilm, x_nilm⟩
set_option maxRecDepth 1000000 in
theorem xm96 : x_Met vwCl x_G x_Zs x_Tb x_Nb xM96 := x_main xT96 [(19, ([(0, xR false [8]), (1, xI 0 1023), (2, xI 0 1), (3, xI 0 1024)], [], [(0, 5, 2, xR false [36])]), (3, true), [], false, 0, [])] [] 2500 (by decide +kernel) (by decide +kernel) xk96 (by decide +kernel)
/-- TwinFires$Rows.nextNearer(I)I -/
def xM97 : xM := (⟨"TwinFires$Rows", "nextNearer", "(I)I"⟩, prog_7_method_9_code, 3, some .int, [xR false [8], xI 0 1023], [([xR false [8], xI 0 1023], some (xI 0 1023))], [], (2, 41, 0, 0), none)
def xT97 : xTab := ([(9, 8, 0), (15, 8, 2), (27, 8, 1)], [], [], [], [], [], [], [(1, 52, 2, none, xM94)], [], [], [])
set_option maxRecDepth 100000 in
set_option maxHeartbeats 4000000 in
theorem xk97 : x_TOK vwCl x_G x_Zs x_Tb x_Nb xM97 xT97 := by
  intro p l e s m args below meth c D U hx hb hml hts hown hK hK0 hU hnm hN
  have X : x_cx p s m args c D U xM97.2.1 xM97.2.2.1 vwCl x_Tb x_Nb xM97.1.cls := ⟨hx, hb, hml, hown, hts, hK, hK0, hU, hN, x_Tb_good, x_Nb_ok⟩
  exact ⟨(x_cons (fl135 hts) (x_cons (fl139 hts) (x_cons (fl136 hts) x_nilm))), x_nilm, x_nilm, x_nilm, x_nilm, x_nilm, x_nilm, (x_cons (x_cokS X xm94 (x_cons (x_bw49 14 rfl rfl) (x_cons (x_bw49 15 rfl rfl) (x_cons (x_bw0 8 rfl rfl) x_nilm))) (x_bw50 0 rfl rfl) (by decide +kernel) ⟨Nat.le_of_ble_eq_true rfl, Nat.le_of_ble_eq_true rfl⟩) x_nilm), x_nilm, x_nilm, x_nilm⟩
set_option maxRecDepth 1000000 in
theorem xm97 : x_Met vwCl x_G x_Zs x_Tb x_Nb xM97 := x_main xT97 [(2, ([(0, xR false [8]), (1, xI 0 1023), (2, xI 0 1024)], [], []), (2, true), [], false, 0, [])] [] 2500 (by decide +kernel) (by decide +kernel) xk97 (by decide +kernel)
/-- TwinFires$Rows.nearer(II)I -/
def xM98 : xM := (⟨"TwinFires$Rows", "nearer", "(II)I"⟩, prog_7_method_8_code, 5, some .int, [xR false [8], xI 0 1023, xF], [([xR false [8], xI 0 1023, xF], some (xI 0 1023))], [], (3, 63, 0, 0), none)
def xT98 : xTab := ([(15, 8, 2)], [], [], [], [], [], [], [(0, 56, 2, some 8, xM97)], [], [], [])
set_option maxRecDepth 100000 in
set_option maxHeartbeats 4000000 in
theorem xk98 : x_TOK vwCl x_G x_Zs x_Tb x_Nb xM98 xT98 := by
  intro p l e s m args below meth c D U hx hb hml hts hown hK hK0 hU hnm hN
  have X : x_cx p s m args c D U xM98.2.1 xM98.2.2.1 vwCl x_Tb x_Nb xM98.1.cls := ⟨hx, hb, hml, hown, hts, hK, hK0, hU, hN, x_Tb_good, x_Nb_ok⟩
  exact ⟨(x_cons (fl139 hts) x_nilm), x_nilm, x_nilm, x_nilm, x_nilm, x_nilm, x_nilm, (x_cons (x_cokV (ci := 5) X xm97 rfl rfl rfl (x_cons (x_bw50 5 rfl rfl) (x_cons (x_bw50 7 rfl rfl) (x_cons (x_at 19 (by decide +kernel) rfl) (x_cons (x_bw0 8 rfl rfl) x_nilm)))) (x_bw50 8 rfl rfl) (by decide +kernel) ⟨Nat.le_of_ble_eq_true rfl, Nat.le_of_ble_eq_true rfl⟩) x_nilm), x_nilm, x_nilm, x_nilm⟩
set_option maxRecDepth 1000000 in
theorem xm98 : x_Met vwCl x_G x_Zs x_Tb x_Nb xM98 := x_main xT98 [(5, ([(0, xR false [8]), (1, xI 0 1023), (2, xF), (3, xI 0 1023), (4, xI 0 2147483647)], [], []), (4, true), [], false, 0, [])] [] 2500 (by decide +kernel) (by decide +kernel) xk98 (by decide +kernel)
/-- TwinFires$Rows.within(I)I -/
def xM99 : xM := (⟨"TwinFires$Rows", "within", "(I)I"⟩, prog_7_method_10_code, 4, some .int, [xR false [8], xF], [([xR false [8], xF], some (xF))], [], (1, 22, 0, 0), none)
def xT99 : xTab := ([(9, 8, 0), (15, 8, 2), (27, 8, 1)], [], [], [], [], [], [], [(1, 59, 3, none, xM79)], [], [], [])
set_option maxRecDepth 100000 in
set_option maxHeartbeats 4000000 in
theorem xk99 : x_TOK vwCl x_G x_Zs x_Tb x_Nb xM99 xT99 := by
  intro p l e s m args below meth c D U hx hb hml hts hown hK hK0 hU hnm hN
  have X : x_cx p s m args c D U xM99.2.1 xM99.2.2.1 vwCl x_Tb x_Nb xM99.1.cls := ⟨hx, hb, hml, hown, hts, hK, hK0, hU, hN, x_Tb_good, x_Nb_ok⟩
  exact ⟨(x_cons (fl135 hts) (x_cons (fl139 hts) (x_cons (fl136 hts) x_nilm))), x_nilm, x_nilm, x_nilm, x_nilm, x_nilm, x_nilm, (x_cons (x_cokSN (host := "TwinFires") X xm79 (x_cons (x_bw19 1 rfl rfl) (x_cons (x_bw0 1 rfl rfl) x_nilm)) (x_bn51 1 rfl rfl) (x_bw19 2 rfl rfl) (by decide +kernel) ⟨Nat.le_of_ble_eq_true rfl, Nat.le_of_ble_eq_true rfl⟩) x_nilm), x_nilm, x_nilm, x_nilm⟩
set_option maxRecDepth 1000000 in
theorem xm99 : x_Met vwCl x_G x_Zs x_Tb x_Nb xM99 := x_main xT99 [(4, ([(0, xR false [8]), (1, xF), (2, xF), (3, xI 0 1024)], [], []), (3, true), [], false, 0, [])] [] 2500 (by decide +kernel) (by decide +kernel) xk99 (by decide +kernel)
/-- TwinFires.isWithin(III)Z -/
def xM100 : xM := (⟨"TwinFires", "isWithin", "(III)Z"⟩, prog_1_method_43_code, 3, some .boolean, [xF, xI 0 0, xI 6 6], [([xI 0 6, xI 0 0, xI 6 6], some (xI 1 1)), ([xF, xI 0 0, xI 6 6], some (xI 0 0))], [], (0, 0, 0, 0), none)
def xT100 : xTab := ([], [], [], [], [], [], [], [], [], [], [])
set_option maxRecDepth 100000 in
set_option maxHeartbeats 4000000 in
theorem xk100 : x_TOK vwCl x_G x_Zs x_Tb x_Nb xM100 xT100 := by
  intro p l e s m args below meth c D U hx hb hml hts hown hK hK0 hU hnm hN
  have X : x_cx p s m args c D U xM100.2.1 xM100.2.2.1 vwCl x_Tb x_Nb xM100.1.cls := ⟨hx, hb, hml, hown, hts, hK, hK0, hU, hN, x_Tb_good, x_Nb_ok⟩
  exact ⟨x_nilm, x_nilm, x_nilm, x_nilm, x_nilm, x_nilm, x_nilm, x_nilm, x_nilm, x_nilm, x_nilm⟩
set_option maxRecDepth 1000000 in
theorem xm100 : x_Met vwCl x_G x_Zs x_Tb x_Nb xM100 := x_main xT100 [] [] 2500 (by decide +kernel) (by decide +kernel) xk100 (by decide +kernel)
/-- TwinFires$Eyes.townView(I)I -/
def xM101 : xM := (⟨"TwinFires$Eyes", "townView", "(I)I"⟩, prog_2_method_7_code, 2, some .int, [xR false [6], xI 0 9], [([xR false [6], xI 0 9], some (xF))], [], (0, 0, 0, 0), none)
def xT101 : xTab := ([(18, 6, 1)], [], [], [], [], [], [], [], [], [], [])
set_option maxRecDepth 100000 in
set_option maxHeartbeats 4000000 in
theorem xk101 : x_TOK vwCl x_G x_Zs x_Tb x_Nb xM101 xT101 := by
  intro p l e s m args below meth c D U hx hb hml hts hown hK hK0 hU hnm hN
  have X : x_cx p s m args c D U xM101.2.1 xM101.2.2.1 vwCl x_Tb x_Nb xM101.1.cls := ⟨hx, hb, hml, hown, hts, hK, hK0, hU, hN, x_Tb_good, x_Nb_ok⟩
  exact ⟨(x_cons (fl101 hts) x_nilm), x_nilm, x_nilm, x_nilm, x_nilm, x_nilm, x_nilm, x_nilm, x_nilm, x_nilm, x_nilm⟩
set_option maxRecDepth 1000000 in
theorem xm101 : x_Met vwCl x_G x_Zs x_Tb x_Nb xM101 := x_main xT101 [] [] 2500 (by decide +kernel) (by decide +kernel) xk101 (by decide +kernel)
/-- java/util/Arrays.fill([II)V -/
def xM102 : xM := (⟨"java/util/Arrays", "fill", "([II)V"⟩, prog_21_method_103_code, 4, none, [xR false [37], xI 0 0], [([xR false [37], xI 0 0], none)], [(37, 0)], (0, 0, 0, 0), none)
def xT102 : xTab := ([], [], [], [], [], [], [], [], [], [], [])
set_option maxRecDepth 100000 in
set_option maxHeartbeats 4000000 in
theorem xk102 : x_TOK vwCl x_G x_Zs x_Tb x_Nb xM102 xT102 := by
  intro p l e s m args below meth c D U hx hb hml hts hown hK hK0 hU hnm hN
  have X : x_cx p s m args c D U xM102.2.1 xM102.2.2.1 vwCl x_Tb x_Nb xM102.1.cls := ⟨hx, hb, hml, hown, hts, hK, hK0, hU, hN, x_Tb_good, x_Nb_ok⟩
  exact ⟨x_nilm, x_nilm, x_nilm, x_nilm, x_nilm, x_nilm, x_nilm, x_nilm, x_nilm, x_nilm, x_nilm⟩
set_option maxRecDepth 1000000 in
theorem xm102 : x_Met vwCl x_G x_Zs x_Tb x_Nb xM102 := x_main xT102 [(5, ([(0, xR false [37]), (1, xI 0 0), (2, xI 0 1024), (3, xI 1024 1024)], [], []), (2, true), [], false, 0, [])] [] 2500 (by decide +kernel) (by decide +kernel) xk102 (by decide +kernel)
/-- TwinFires$Rows.viewsWithin(II)I -/
def xM103 : xM := (⟨"TwinFires$Rows", "viewsWithin", "(II)I"⟩, prog_7_method_11_code, 6, some .int, [xR false [8], xF, xF], [([xR false [8], xF, xF], some (xF))], [(37, 0)], (1, 23, 0, 0), none)
def xT103 : xTab := ([(9, 8, 0), (15, 8, 2), (18, 8, 3), (27, 8, 1)], [], [], [], [], [], [], [(1, 42, 2, none, xM102), (1, 59, 3, none, xM79)], [], [], [])
set_option maxRecDepth 100000 in
set_option maxHeartbeats 4000000 in
theorem xk103 : x_TOK vwCl x_G x_Zs x_Tb x_Nb xM103 xT103 := by
  intro p l e s m args below meth c D U hx hb hml hts hown hK hK0 hU hnm hN
  have X : x_cx p s m args c D U xM103.2.1 xM103.2.2.1 vwCl x_Tb x_Nb xM103.1.cls := ⟨hx, hb, hml, hown, hts, hK, hK0, hU, hN, x_Tb_good, x_Nb_ok⟩
  exact ⟨(x_cons (fl135 hts) (x_cons (fl139 hts) (x_cons (fl140 hts) (x_cons (fl136 hts) x_nilm)))), x_nilm, x_nilm, x_nilm, x_nilm, x_nilm, x_nilm, (x_cons (x_cokS X xm102 (x_cons (x_bw49 9 rfl rfl) (x_cons (x_bw2 7 rfl rfl) (x_cons (x_bw0 3 rfl rfl) x_nilm))) (x_bw2 8 rfl rfl) (by decide +kernel) ⟨Nat.le_of_ble_eq_true rfl, Nat.le_of_ble_eq_true rfl⟩) (x_cons (x_cokSN (host := "TwinFires") X xm79 (x_cons (x_bw19 1 rfl rfl) (x_cons (x_bw0 1 rfl rfl) x_nilm)) (x_bn51 1 rfl rfl) (x_bw19 2 rfl rfl) (by decide +kernel) ⟨Nat.le_of_ble_eq_true rfl, Nat.le_of_ble_eq_true rfl⟩) x_nilm)), x_nilm, x_nilm, x_nilm⟩
set_option maxRecDepth 1000000 in
theorem xm103 : x_Met vwCl x_G x_Zs x_Tb x_Nb xM103 := x_main xT103 [(13, ([(0, xR false [8]), (1, xF), (2, xF), (3, xF), (4, xI 0 1024)], [], [(0, 5, 3, xR false [37])]), (4, true), [], false, 0, [])] [] 2500 (by decide +kernel) (by decide +kernel) xk103 (by decide +kernel)
/-- TwinFires.isWithin(III)Z -/
def xM104 : xM := (⟨"TwinFires", "isWithin", "(III)Z"⟩, prog_1_method_43_code, 3, some .boolean, [xF, xI (-1) (-1), xI 11 11], [([xI (-1) 11, xI (-1) (-1), xI 11 11], some (xI 1 1)), ([xF, xI (-1) (-1), xI 11 11], some (xI 0 0))], [], (0, 0, 0, 0), none)
def xT104 : xTab := ([], [], [], [], [], [], [], [], [], [], [])
set_option maxRecDepth 100000 in
set_option maxHeartbeats 4000000 in
theorem xk104 : x_TOK vwCl x_G x_Zs x_Tb x_Nb xM104 xT104 := by
  intro p l e s m args below meth c D U hx hb hml hts hown hK hK0 hU hnm hN
  have X : x_cx p s m args c D U xM104.2.1 xM104.2.2.1 vwCl x_Tb x_Nb xM104.1.cls := ⟨hx, hb, hml, hown, hts, hK, hK0, hU, hN, x_Tb_good, x_Nb_ok⟩
  exact ⟨x_nilm, x_nilm, x_nilm, x_nilm, x_nilm, x_nilm, x_nilm, x_nilm, x_nilm, x_nilm, x_nilm⟩
set_option maxRecDepth 1000000 in
theorem xm104 : x_Met vwCl x_G x_Zs x_Tb x_Nb xM104 := x_main xT104 [] [] 2500 (by decide +kernel) (by decide +kernel) xk104 (by decide +kernel)
/-- TwinFires$Rows.isNearMarked(III)Z -/
def xM105 : xM := (⟨"TwinFires$Rows", "isNearMarked", "(III)Z"⟩, prog_7_method_13_code, 6, some .boolean, [xR false [8], xI 0 1023, xF, xI 0 10], [([xR false [8], xI 0 1023, xF, xI 0 10], some (xI 1 1)), ([xR false [8], xI 0 1023, xF, xI 0 10], some (xI 0 0))], [], (1, 21, 0, 0), none)
def xT105 : xTab := ([(18, 8, 3)], [], [], [], [], [], [], [(1, 82, 2, none, xM70)], [], [], [])
set_option maxRecDepth 100000 in
set_option maxHeartbeats 4000000 in
theorem xk105 : x_TOK vwCl x_G x_Zs x_Tb x_Nb xM105 xT105 := by
  intro p l e s m args below meth c D U hx hb hml hts hown hK hK0 hU hnm hN
  have X : x_cx p s m args c D U xM105.2.1 xM105.2.2.1 vwCl x_Tb x_Nb xM105.1.cls := ⟨hx, hb, hml, hown, hts, hK, hK0, hU, hN, x_Tb_good, x_Nb_ok⟩
  exact ⟨(x_cons (fl140 hts) x_nilm), x_nilm, x_nilm, x_nilm, x_nilm, x_nilm, x_nilm, (x_cons (x_cokSN (host := "TwinFires") X xm70 (x_cons (x_bw42 15 rfl rfl) (x_cons (x_bw0 1 rfl rfl) x_nilm)) (x_bn52 12 rfl rfl) (x_bw43 0 rfl rfl) (by decide +kernel) ⟨Nat.le_of_ble_eq_true rfl, Nat.le_of_ble_eq_true rfl⟩) x_nilm), x_nilm, x_nilm, x_nilm⟩
set_option maxRecDepth 1000000 in
theorem xm105 : x_Met vwCl x_G x_Zs x_Tb x_Nb xM105 := x_main xT105 [(18, ([(0, xR false [8]), (1, xI 0 1023), (2, xF), (3, xI 0 10), (4, xI 0 10)], [], [(0, 5, 3, xR false [37])]), (4, true), [], false, 0, []), (28, ([(0, xR false [8]), (1, xI 0 1023), (2, xF), (3, xI 1 10), (4, xI 0 9), (5, xI 0 10)], [], [(0, 5, 3, xR false [37])]), (5, true), [4], false, 1, [])] [] 2500 (by decide +kernel) (by decide +kernel) xk105 (by decide +kernel)
/-- TwinFires$Rows.dropDeadEnds(LTwinFires$Land;II)V -/
def xM106 : xM := (⟨"TwinFires$Rows", "dropDeadEnds", "(LTwinFires$Land;II)V"⟩, prog_7_method_15_code, 7, none, [xR false [8], xR false [2], xI 0 1023, xI 0 11], [([xR false [8], xR false [2], xI 0 1023, xI 0 11], none)], [(37, 0)], (2, 46, 0, 0), none)
def xT106 : xTab := ([(18, 8, 3), (72, 2, 0)], [], [], [], [], [], [], [(1, 82, 2, none, xM70), (0, 79, 4, some 8, xM105)], [], [], [])
set_option maxRecDepth 100000 in
set_option maxHeartbeats 4000000 in
theorem xk106 : x_TOK vwCl x_G x_Zs x_Tb x_Nb xM106 xT106 := by
  intro p l e s m args below meth c D U hx hb hml hts hown hK hK0 hU hnm hN
  have X : x_cx p s m args c D U xM106.2.1 xM106.2.2.1 vwCl x_Tb x_Nb xM106.1.cls := ⟨hx, hb, hml, hown, hts, hK, hK0, hU, hN, x_Tb_good, x_Nb_ok⟩
  exact ⟨(x_cons (fl140 hts) (x_cons (fl141 hts) x_nilm)), x_nilm, x_nilm, x_nilm, x_nilm, x_nilm, x_nilm, (x_cons (x_cokSN (host := "TwinFires") X xm70 (x_cons (x_bw42 15 rfl rfl) (x_cons (x_bw0 1 rfl rfl) x_nilm)) (x_bn52 12 rfl rfl) (x_bw43 0 rfl rfl) (by decide +kernel) ⟨Nat.le_of_ble_eq_true rfl, Nat.le_of_ble_eq_true rfl⟩) (x_cons (x_cokV (ci := 5) X xm105 rfl rfl rfl (x_cons (x_bw52 8 rfl rfl) (x_cons (x_bw52 10 rfl rfl) (x_cons (x_at 20 (by decide +kernel) rfl) (x_cons (x_bw0 8 rfl rfl) x_nilm)))) (x_bw52 11 rfl rfl) (by decide +kernel) ⟨Nat.le_of_ble_eq_true rfl, Nat.le_of_ble_eq_true rfl⟩) x_nilm)), x_nilm, x_nilm, x_nilm⟩
set_option maxRecDepth 1000000 in
theorem xm106 : x_Met vwCl x_G x_Zs x_Tb x_Nb xM106 := x_main xT106 [(11, ([(0, xR false [8]), (1, xR false [2]), (2, xI 0 1023), (3, xI 0 11), (4, xI 1 1024), (5, xI 0 1024)], [], [(1, 2, 0, xI 0 10)]), (5, true), [], false, 0, []), (54, ([(0, xR false [8]), (1, xR false [2]), (2, xI 0 1023), (3, xI 0 11), (4, xI 1 1024), (5, xI (-1) 10)], [], [(1, 2, 0, xI 0 10)]), (5, false), [], false, 0, []), (62, ([(0, xR false [8]), (1, xR false [2]), (2, xI 0 1023), (3, xI 0 11), (4, xI 1 1024), (5, xI 1 10), (6, xI 0 1024)], [], [(1, 2, 0, xI 0 10)]), (6, true), [5], false, 1, [])] [] 2500 (by decide +kernel) (by decide +kernel) xk106 (by decide +kernel)
/-- TwinFires$Rows.leastMarked(III)I -/
def xM107 : xM := (⟨"TwinFires$Rows", "leastMarked", "(III)I"⟩, prog_7_method_16_code, 5, some .int, [xR false [8], xI 0 1023, xF, xI 0 1024], [([xR false [8], xI 0 1023, xF, xI 0 1024], some (xI 0 1023))], [], (2, 41, 0, 0), none)
def xT107 : xTab := ([(18, 8, 3)], [], [], [], [], [], [], [(1, 52, 2, none, xM94), (1, 82, 2, none, xM70)], [], [], [])
set_option maxRecDepth 100000 in
set_option maxHeartbeats 4000000 in
theorem xk107 : x_TOK vwCl x_G x_Zs x_Tb x_Nb xM107 xT107 := by
  intro p l e s m args below meth c D U hx hb hml hts hown hK hK0 hU hnm hN
  have X : x_cx p s m args c D U xM107.2.1 xM107.2.2.1 vwCl x_Tb x_Nb xM107.1.cls := ⟨hx, hb, hml, hown, hts, hK, hK0, hU, hN, x_Tb_good, x_Nb_ok⟩
  exact ⟨(x_cons (fl140 hts) x_nilm), x_nilm, x_nilm, x_nilm, x_nilm, x_nilm, x_nilm, (x_cons (x_cokS X xm94 (x_cons (x_bw49 14 rfl rfl) (x_cons (x_bw49 15 rfl rfl) (x_cons (x_bw0 8 rfl rfl) x_nilm))) (x_bw50 0 rfl rfl) (by decide +kernel) ⟨Nat.le_of_ble_eq_true rfl, Nat.le_of_ble_eq_true rfl⟩) (x_cons (x_cokSN (host := "TwinFires") X xm70 (x_cons (x_bw42 15 rfl rfl) (x_cons (x_bw0 1 rfl rfl) x_nilm)) (x_bn52 12 rfl rfl) (x_bw43 0 rfl rfl) (by decide +kernel) ⟨Nat.le_of_ble_eq_true rfl, Nat.le_of_ble_eq_true rfl⟩) x_nilm)), x_nilm, x_nilm, x_nilm⟩
set_option maxRecDepth 1000000 in
theorem xm107 : x_Met vwCl x_G x_Zs x_Tb x_Nb xM107 := x_main xT107 [(3, ([(0, xR false [8]), (1, xI 0 1023), (2, xF), (3, xI 0 1024), (4, xI 0 1024)], [], []), (4, true), [], false, 0, [])] [] 2500 (by decide +kernel) (by decide +kernel) xk107 (by decide +kernel)
/-- TwinFires$Rows.inHour(LTwinFires$Land;IIII)I -/
def xM108 : xM := (⟨"TwinFires$Rows", "inHour", "(LTwinFires$Land;IIII)I"⟩, prog_7_method_14_code, 8, some .int, [xR false [8], xR false [2], xI 0 1023, xI 0 1023, xI 0 11, xI 0 11], [([xR false [8], xR false [2], xI 0 1023, xI 0 1023, xI 0 11, xI 0 11], some (xI 0 1023))], [(37, 0)], (3, 72, 0, 0), none)
def xT108 : xTab := ([(72, 2, 0)], [], [], [], [], [], [], [(0, 85, 4, some 8, xM106), (0, 88, 4, some 8, xM107)], [], [], [])
set_option maxRecDepth 100000 in
set_option maxHeartbeats 4000000 in
theorem xk108 : x_TOK vwCl x_G x_Zs x_Tb x_Nb xM108 xT108 := by
  intro p l e s m args below meth c D U hx hb hml hts hown hK hK0 hU hnm hN
  have X : x_cx p s m args c D U xM108.2.1 xM108.2.2.1 vwCl x_Tb x_Nb xM108.1.cls := ⟨hx, hb, hml, hown, hts, hK, hK0, hU, hN, x_Tb_good, x_Nb_ok⟩
  exact ⟨(x_cons (fl141 hts) x_nilm), x_nilm, x_nilm, x_nilm, x_nilm, x_nilm, x_nilm, (x_cons (x_cokV (ci := 5) X xm106 rfl rfl rfl (x_cons (x_bw53 1 rfl rfl) (x_cons (x_bw53 3 rfl rfl) (x_cons (x_at 21 (by decide +kernel) rfl) (x_cons (x_bw0 8 rfl rfl) x_nilm)))) (x_bw53 4 rfl rfl) (by decide +kernel) ⟨Nat.le_of_ble_eq_true rfl, Nat.le_of_ble_eq_true rfl⟩) (x_cons (x_cokV (ci := 5) X xm107 rfl rfl rfl (x_cons (x_bw53 5 rfl rfl) (x_cons (x_bw53 7 rfl rfl) (x_cons (x_at 22 (by decide +kernel) rfl) (x_cons (x_bw0 8 rfl rfl) x_nilm)))) (x_bw53 8 rfl rfl) (by decide +kernel) ⟨Nat.le_of_ble_eq_true rfl, Nat.le_of_ble_eq_true rfl⟩) x_nilm)), x_nilm, x_nilm, x_nilm⟩
set_option maxRecDepth 1000000 in
theorem xm108 : x_Met vwCl x_G x_Zs x_Tb x_Nb xM108 := x_main xT108 [(14, ([(0, xR false [8]), (1, xR false [2]), (2, xI 0 1023), (3, xI 0 1023), (4, xI 0 11), (5, xI 0 11), (6, xI 0 1023), (7, xI 1 12)], [], []), (7, true), [], false, 0, [])] [] 2500 (by decide +kernel) (by decide +kernel) xk108 (by decide +kernel)
/-- TwinFires.letter(I)I -/
def xM109 : xM := (⟨"TwinFires", "letter", "(I)I"⟩, prog_1_method_27_code, 2, some .int, [xR false [0], xF], [([xR false [0], xF], some (xF))], [(2, 12), (29, 0), (42, 0)], (3, 66, 0, 0), none)
/-- TwinFires.unword()I -/
def xM110 : xM := (⟨"TwinFires", "unword", "()I"⟩, prog_1_method_28_code, 2, some .int, [xR false [0]], [([xR false [0]], some (xI 0 8))], [(2, 12)], (0, 0, 0, 0), none)
/-- TwinFires$Rows.readBy(LTwinFires$Land;II)I -/
def xM111 : xM := (⟨"TwinFires$Rows", "readBy", "(LTwinFires$Land;II)I"⟩, prog_7_method_18_code, 4, some .int, [xR false [2], xI 0 8, xF], [([xR false [2], xI 0 8, xF], some (xI 0 8))], [], (1, 20, 0, 0), none)
def xT111 : xTab := ([(92, 2, 12), (106, 2, 13)], [], [], [], [], [], [], [(1, 37, 1, none, xM71)], [], [], [])
set_option maxRecDepth 100000 in
set_option maxHeartbeats 4000000 in
theorem xk111 : x_TOK vwCl x_G x_Zs x_Tb x_Nb xM111 xT111 := by
  intro p l e s m args below meth c D U hx hb hml hts hown hK hK0 hU hnm hN
  have X : x_cx p s m args c D U xM111.2.1 xM111.2.2.1 vwCl x_Tb x_Nb xM111.1.cls := ⟨hx, hb, hml, hown, hts, hK, hK0, hU, hN, x_Tb_good, x_Nb_ok⟩
  exact ⟨(x_cons (fl145 hts) (x_cons (fl146 hts) x_nilm)), x_nilm, x_nilm, x_nilm, x_nilm, x_nilm, x_nilm, (x_cons (x_cokS X xm71 (x_cons (x_bw44 9 rfl rfl) (x_cons (x_bw43 2 rfl rfl) (x_cons (x_bw1 5 rfl rfl) x_nilm))) (x_bw43 3 rfl rfl) (by decide +kernel) ⟨Nat.le_of_ble_eq_true rfl, Nat.le_of_ble_eq_true rfl⟩) x_nilm), x_nilm, x_nilm, x_nilm⟩
set_option maxRecDepth 1000000 in
theorem xm111 : x_Met vwCl x_G x_Zs x_Tb x_Nb xM111 := x_main xT111 [] [] 2500 (by decide +kernel) (by decide +kernel) xk111 (by decide +kernel)
/-- TwinFires$Rows.mostReadNear(I)I -/
def xM112 : xM := (⟨"TwinFires$Rows", "mostReadNear", "(I)I"⟩, prog_7_method_21_code, 4, some .int, [xR false [8], xF], [([xR false [8], xF], some (xI (-1) 8))], [], (2, 41, 0, 0), none)
def xT112 : xTab := ([(9, 8, 0), (21, 8, 4), (27, 8, 1)], [], [], [], [], [], [], [(1, 52, 2, none, xM94)], [], [], [])
set_option maxRecDepth 100000 in
set_option maxHeartbeats 4000000 in
theorem xk112 : x_TOK vwCl x_G x_Zs x_Tb x_Nb xM112 xT112 := by
  intro p l e s m args below meth c D U hx hb hml hts hown hK hK0 hU hnm hN
  have X : x_cx p s m args c D U xM112.2.1 xM112.2.2.1 vwCl x_Tb x_Nb xM112.1.cls := ⟨hx, hb, hml, hown, hts, hK, hK0, hU, hN, x_Tb_good, x_Nb_ok⟩
  exact ⟨(x_cons (fl135 hts) (x_cons (fl147 hts) (x_cons (fl136 hts) x_nilm))), x_nilm, x_nilm, x_nilm, x_nilm, x_nilm, x_nilm, (x_cons (x_cokS X xm94 (x_cons (x_bw49 14 rfl rfl) (x_cons (x_bw49 15 rfl rfl) (x_cons (x_bw0 8 rfl rfl) x_nilm))) (x_bw50 0 rfl rfl) (by decide +kernel) ⟨Nat.le_of_ble_eq_true rfl, Nat.le_of_ble_eq_true rfl⟩) x_nilm), x_nilm, x_nilm, x_nilm⟩
set_option maxRecDepth 1000000 in
theorem xm112 : x_Met vwCl x_G x_Zs x_Tb x_Nb xM112 := x_main xT112 [(4, ([(0, xR false [8]), (1, xF), (2, xI (-1) 8), (3, xI 0 1024)], [], []), (3, true), [], false, 0, [])] [] 2500 (by decide +kernel) (by decide +kernel) xk112 (by decide +kernel)
/-- TwinFires$Rows.readOneHour(LTwinFires$Land;I)Z -/
def xM113 : xM := (⟨"TwinFires$Rows", "readOneHour", "(LTwinFires$Land;I)Z"⟩, prog_7_method_20_code, 6, some .boolean, [xR false [8], xR false [2], xF], [([xR false [8], xR false [2], xF], some (xI 0 1))], [(8, 4), (8, 5), (38, 0)], (3, 64, 0, 0), none)
def xT113 : xTab := ([(9, 8, 0), (21, 8, 4), (24, 8, 5), (27, 8, 1)], [(21, 8, 4), (24, 8, 5)], [], [], [], [], [], [(1, 95, 3, none, xM111), (0, 109, 2, some 8, xM112)], [], [], [])
set_option maxRecDepth 100000 in
set_option maxHeartbeats 4000000 in
theorem xk113 : x_TOK vwCl x_G x_Zs x_Tb x_Nb xM113 xT113 := by
  intro p l e s m args below meth c D U hx hb hml hts hown hK hK0 hU hnm hN
  have X : x_cx p s m args c D U xM113.2.1 xM113.2.2.1 vwCl x_Tb x_Nb xM113.1.cls := ⟨hx, hb, hml, hown, hts, hK, hK0, hU, hN, x_Tb_good, x_Nb_ok⟩
  exact ⟨(x_cons (fl135 hts) (x_cons (fl147 hts) (x_cons (fl148 hts) (x_cons (fl136 hts) x_nilm)))), (x_cons (fw149 hts) (x_cons (fw150 hts) x_nilm)), x_nilm, x_nilm, x_nilm, x_nilm, x_nilm, (x_cons (x_cokS X xm111 (x_cons (x_bw54 9 rfl rfl) (x_cons (x_bw54 10 rfl rfl) (x_cons (x_bw0 8 rfl rfl) x_nilm))) (x_bw54 11 rfl rfl) (by decide +kernel) ⟨Nat.le_of_ble_eq_true rfl, Nat.le_of_ble_eq_true rfl⟩) (x_cons (x_cokV (ci := 5) X xm112 rfl rfl rfl (x_cons (x_bw55 0 rfl rfl) (x_cons (x_bw55 2 rfl rfl) (x_cons (x_at 24 (by decide +kernel) rfl) (x_cons (x_bw0 8 rfl rfl) x_nilm)))) (x_bw55 3 rfl rfl) (by decide +kernel) ⟨Nat.le_of_ble_eq_true rfl, Nat.le_of_ble_eq_true rfl⟩) x_nilm)), x_nilm, x_nilm, x_nilm⟩
set_option maxRecDepth 1000000 in
theorem xm113 : x_Met vwCl x_G x_Zs x_Tb x_Nb xM113 := x_main xT113 [(5, ([(0, xR false [8]), (1, xR false [2]), (2, xF), (3, xI 0 1), (4, xI 0 1024)], [], []), (4, true), [], false, 0, [])] [] 2500 (by decide +kernel) (by decide +kernel) xk113 (by decide +kernel)
/-- TwinFires$Rows.isAllRead(I)Z -/
def xM114 : xM := (⟨"TwinFires$Rows", "isAllRead", "(I)Z"⟩, prog_7_method_19_code, 3, some .boolean, [xR false [8], xF], [([xR false [8], xF], some (xI 1 1)), ([xR false [8], xF], some (xI 0 0))], [], (0, 0, 0, 0), none)
def xT114 : xTab := ([(21, 8, 4), (27, 8, 1)], [], [], [], [], [], [], [], [], [], [])
set_option maxRecDepth 100000 in
set_option maxHeartbeats 4000000 in
theorem xk114 : x_TOK vwCl x_G x_Zs x_Tb x_Nb xM114 xT114 := by
  intro p l e s m args below meth c D U hx hb hml hts hown hK hK0 hU hnm hN
  have X : x_cx p s m args c D U xM114.2.1 xM114.2.2.1 vwCl x_Tb x_Nb xM114.1.cls := ⟨hx, hb, hml, hown, hts, hK, hK0, hU, hN, x_Tb_good, x_Nb_ok⟩
  exact ⟨(x_cons (fl147 hts) (x_cons (fl136 hts) x_nilm)), x_nilm, x_nilm, x_nilm, x_nilm, x_nilm, x_nilm, x_nilm, x_nilm, x_nilm, x_nilm⟩
set_option maxRecDepth 1000000 in
theorem xm114 : x_Met vwCl x_G x_Zs x_Tb x_Nb xM114 := x_main xT114 [(2, ([(0, xR false [8]), (1, xF), (2, xI 0 1024)], [], []), (2, true), [], false, 0, [])] [] 2500 (by decide +kernel) (by decide +kernel) xk114 (by decide +kernel)
/-- TwinFires$Rows.hoursToRead(LTwinFires$Land;II)I -/
def xM115 : xM := (⟨"TwinFires$Rows", "hoursToRead", "(LTwinFires$Land;II)I"⟩, prog_7_method_17_code, 7, some .int, [xR false [8], xR false [2], xI 0 1023, xF], [([xR false [8], xR false [2], xI 0 1023, xF], some (xI (-1) 9216))], [(8, 4), (8, 5), (38, 0)], (4, 89, 0, 0), none)
def xT115 : xTab := ([(9, 8, 0), (21, 8, 4), (27, 8, 1), (92, 2, 12)], [], [], [], [], [], [], [(1, 95, 3, none, xM111), (0, 99, 3, some 8, xM113), (0, 103, 2, some 8, xM114)], [], [], [])
set_option maxRecDepth 100000 in
set_option maxHeartbeats 4000000 in
theorem xk115 : x_TOK vwCl x_G x_Zs x_Tb x_Nb xM115 xT115 := by
  intro p l e s m args below meth c D U hx hb hml hts hown hK hK0 hU hnm hN
  have X : x_cx p s m args c D U xM115.2.1 xM115.2.2.1 vwCl x_Tb x_Nb xM115.1.cls := ⟨hx, hb, hml, hown, hts, hK, hK0, hU, hN, x_Tb_good, x_Nb_ok⟩
  exact ⟨(x_cons (fl135 hts) (x_cons (fl147 hts) (x_cons (fl136 hts) (x_cons (fl145 hts) x_nilm)))), x_nilm, x_nilm, x_nilm, x_nilm, x_nilm, x_nilm, (x_cons (x_cokS X xm111 (x_cons (x_bw54 9 rfl rfl) (x_cons (x_bw54 10 rfl rfl) (x_cons (x_bw0 8 rfl rfl) x_nilm))) (x_bw54 11 rfl rfl) (by decide +kernel) ⟨Nat.le_of_ble_eq_true rfl, Nat.le_of_ble_eq_true rfl⟩) (x_cons (x_cokV (ci := 5) X xm113 rfl rfl rfl (x_cons (x_bw54 12 rfl rfl) (x_cons (x_bw54 14 rfl rfl) (x_cons (x_at 23 (by decide +kernel) rfl) (x_cons (x_bw0 8 rfl rfl) x_nilm)))) (x_bw54 15 rfl rfl) (by decide +kernel) ⟨Nat.le_of_ble_eq_true rfl, Nat.le_of_ble_eq_true rfl⟩) (x_cons (x_cokV (ci := 5) X xm114 rfl rfl rfl (x_cons (x_bw55 4 rfl rfl) (x_cons (x_bw55 6 rfl rfl) (x_cons (x_at 25 (by decide +kernel) rfl) (x_cons (x_bw0 8 rfl rfl) x_nilm)))) (x_bw55 7 rfl rfl) (by decide +kernel) ⟨Nat.le_of_ble_eq_true rfl, Nat.le_of_ble_eq_true rfl⟩) x_nilm))), x_nilm, x_nilm, x_nilm⟩
set_option maxRecDepth 1000000 in
theorem xm115 : x_Met vwCl x_G x_Zs x_Tb x_Nb xM115 := x_main xT115 [(17, ([(0, xR false [8]), (1, xR false [2]), (2, xI 0 1023), (3, xF), (4, xI 0 1), (5, xI 0 1024)], [], [(1, 2, 12, xI 0 8)]), (5, true), [], false, 0, []), (98, ([(0, xR false [8]), (1, xR false [2]), (2, xI 0 1023), (3, xF), (4, xI 0 1), (5, xI 0 1), (6, xI 0 9216)], [], [(0, 5, 1, xI 0 1024), (1, 2, 12, xI 0 8)]), (6, true), [], false, 0, [])] [] 2500 (by decide +kernel) (by decide +kernel) xk115 (by decide +kernel)
/-- TwinFires.report(II)I -/
def xM117 : xM := (⟨"TwinFires", "report", "(II)I"⟩, prog_1_method_30_code, 4, some .int, [xR false [0], xF, xF], [([xR false [0], xF, xF], some (xF))], [(22, 0), (42, 0)], (2, 45, 0, 0), none)
/-- TwinFires.blame(II)I -/
def xM118 : xM := (⟨"TwinFires", "blame", "(II)I"⟩, prog_1_method_31_code, 4, some .int, [xR false [0], xF, xF], [([xR false [0], xF, xF], some (xF))], [(23, 0), (42, 0)], (3, 66, 0, 0), none)
/-- TwinFires.isTrue(II)Z -/
def xM119 : xM := (⟨"TwinFires", "isTrue", "(II)Z"⟩, prog_1_method_55_code, 3, some .boolean, [xR false [0], xI 0 9, xF], [([xR false [0], xI 0 9, xF], some (xI 1 1)), ([xR false [0], xI 0 9, xF], some (xI 0 0))], [], (1, 20, 0, 0), none)
def xT119 : xTab := ([(12, 0, 0), (33, 0, 4), (107, 6, 1), (264, 2, 4)], [], [], [], [], [], [], [(1, 175, 1, none, xM71)], [], [], [])
set_option maxRecDepth 100000 in
set_option maxHeartbeats 4000000 in
theorem xk119 : x_TOK vwCl x_G x_Zs x_Tb x_Nb xM119 xT119 := by
  intro p l e s m args below meth c D U hx hb hml hts hown hK hK0 hU hnm hN
  have X : x_cx p s m args c D U xM119.2.1 xM119.2.2.1 vwCl x_Tb x_Nb xM119.1.cls := ⟨hx, hb, hml, hown, hts, hK, hK0, hU, hN, x_Tb_good, x_Nb_ok⟩
  exact ⟨(x_cons (fl8 hts) (x_cons (fl102 hts) (x_cons (fl103 hts) (x_cons (fl151 hts) x_nilm)))), x_nilm, x_nilm, x_nilm, x_nilm, x_nilm, x_nilm, (x_cons (x_cokS X xm71 (x_cons (x_bw43 7 rfl rfl) (x_cons (x_bw43 2 rfl rfl) (x_cons (x_bw1 5 rfl rfl) x_nilm))) (x_bw43 3 rfl rfl) (by decide +kernel) ⟨Nat.le_of_ble_eq_true rfl, Nat.le_of_ble_eq_true rfl⟩) x_nilm), x_nilm, x_nilm, x_nilm⟩
set_option maxRecDepth 1000000 in
theorem xm119 : x_Met vwCl x_G x_Zs x_Tb x_Nb xM119 := x_main xT119 [] [] 2500 (by decide +kernel) (by decide +kernel) xk119 (by decide +kernel)
/-- TwinFires.isAsReported(I)Z -/
def xM120 : xM := (⟨"TwinFires", "isAsReported", "(I)Z"⟩, prog_1_method_54_code, 3, some .boolean, [xR false [0], xF], [([xR false [0], xF], some (xI 0 0)), ([xR false [0], xF], some (xI 1 1))], [], (2, 42, 0, 0), none)
def xT120 : xTab := ([(12, 0, 0), (264, 2, 4), (273, 2, 0)], [], [], [], [], [], [], [(0, 330, 3, some 0, xM119)], [], [], [])
set_option maxRecDepth 100000 in
set_option maxHeartbeats 4000000 in
theorem xk120 : x_TOK vwCl x_G x_Zs x_Tb x_Nb xM120 xT120 := by
  intro p l e s m args below meth c D U hx hb hml hts hown hK hK0 hU hnm hN
  have X : x_cx p s m args c D U xM120.2.1 xM120.2.2.1 vwCl x_Tb x_Nb xM120.1.cls := ⟨hx, hb, hml, hown, hts, hK, hK0, hU, hN, x_Tb_good, x_Nb_ok⟩
  exact ⟨(x_cons (fl8 hts) (x_cons (fl151 hts) (x_cons (fl153 hts) x_nilm))), x_nilm, x_nilm, x_nilm, x_nilm, x_nilm, x_nilm, (x_cons (x_cokV (ci := 11) X xm119 rfl rfl rfl (x_cons (x_bw56 13 rfl rfl) (x_cons (x_bw56 15 rfl rfl) (x_cons (x_at 28 (by decide +kernel) rfl) (x_cons (x_bw0 1 rfl rfl) x_nilm)))) (x_bw57 0 rfl rfl) (by decide +kernel) ⟨Nat.le_of_ble_eq_true rfl, Nat.le_of_ble_eq_true rfl⟩) x_nilm), x_nilm, x_nilm, x_nilm⟩
set_option maxRecDepth 1000000 in
theorem xm120 : x_Met vwCl x_G x_Zs x_Tb x_Nb xM120 := x_main xT120 [(2, ([(0, xR false [0]), (1, xF), (2, xI 0 10)], [], []), (2, true), [], false, 0, [])] [] 2500 (by decide +kernel) (by decide +kernel) xk120 (by decide +kernel)

