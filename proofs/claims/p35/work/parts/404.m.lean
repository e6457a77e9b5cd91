/-- TwinFires.suspects(I)I -/
def xM121 : xM := (⟨"TwinFires", "suspects", "(I)I"⟩, prog_1_method_53_code, 4, some .int, [xR false [0], xF], [([xR false [0], xF], some (xI 0 1023))], [], (3, 64, 0, 0), none)
def xT121 : xTab := ([(12, 0, 0), (273, 2, 0)], [], [], [], [], [], [], [(1, 276, 2, none, xM70), (0, 327, 2, some 0, xM120)], [], [], [])
set_option maxRecDepth 100000 in
set_option maxHeartbeats 4000000 in
theorem xk121 : x_TOK vwCl x_G x_Zs x_Tb x_Nb xM121 xT121 := by
  intro p l e s m args below meth c D U hx hb hml hts hown hK hK0 hU hnm hN
  have X : x_cx p s m args c D U xM121.2.1 xM121.2.2.1 vwCl x_Tb x_Nb xM121.1.cls := ⟨hx, hb, hml, hown, hts, hK, hK0, hU, hN, x_Tb_good, x_Nb_ok⟩
  exact ⟨(x_cons (fl8 hts) (x_cons (fl153 hts) x_nilm)), x_nilm, x_nilm, x_nilm, x_nilm, x_nilm, x_nilm, (x_cons (x_cokS X xm70 (x_cons (x_bw56 8 rfl rfl) (x_cons (x_bw42 15 rfl rfl) (x_cons (x_bw0 1 rfl rfl) x_nilm))) (x_bw43 0 rfl rfl) (by decide +kernel) ⟨Nat.le_of_ble_eq_true rfl, Nat.le_of_ble_eq_true rfl⟩) (x_cons (x_cokV (ci := 11) X xm120 rfl rfl rfl (x_cons (x_bw56 9 rfl rfl) (x_cons (x_bw56 11 rfl rfl) (x_cons (x_at 27 (by decide +kernel) rfl) (x_cons (x_bw0 1 rfl rfl) x_nilm)))) (x_bw56 12 rfl rfl) (by decide +kernel) ⟨Nat.le_of_ble_eq_true rfl, Nat.le_of_ble_eq_true rfl⟩) x_nilm)), x_nilm, x_nilm, x_nilm⟩
set_option maxRecDepth 1000000 in
theorem xm121 : x_Met vwCl x_G x_Zs x_Tb x_Nb xM121 := x_main xT121 [(4, ([(0, xR false [0]), (1, xF), (2, xI 0 1023), (3, xI 0 10)], [], []), (3, true), [], false, 0, [])] [] 2500 (by decide +kernel) (by decide +kernel) xk121 (by decide +kernel)
/-- TwinFires.without(I)I -/
def xM122 : xM := (⟨"TwinFires", "without", "(I)I"⟩, prog_1_method_32_code, 2, some .int, [xR false [0], xF], [([xR false [0], xF], some (xF))], [(10, 0), (10, 1), (10, 2), (10, 3), (10, 4), (10, 5), (10, 6), (10, 7), (32, 0), (33, 0), (34, 0), (42, 0)], (6, 138, 0, 0), none)
def xT122 : xTab := ([(12, 0, 0)], [], [], [], [], [], [], [(0, 59, 2, some 0, xM8), (0, 104, 1, some 0, xM52), (0, 169, 2, some 2, xM67), (0, 224, 2, some 0, xM92), (0, 270, 2, some 0, xM121)], [], [], [])
set_option maxRecDepth 100000 in
set_option maxHeartbeats 4000000 in
theorem xk122 : x_TOK vwCl x_G x_Zs x_Tb x_Nb xM122 xT122 := by
  intro p l e s m args below meth c D U hx hb hml hts hown hK hK0 hU hnm hN
  have X : x_cx p s m args c D U xM122.2.1 xM122.2.2.1 vwCl x_Tb x_Nb xM122.1.cls := ⟨hx, hb, hml, hown, hts, hK, hK0, hU, hN, x_Tb_good, x_Nb_ok⟩
  exact ⟨(x_cons (fl8 hts) x_nilm), x_nilm, x_nilm, x_nilm, x_nilm, x_nilm, x_nilm, (x_cons (x_cokV (ci := 11) X xm8 rfl rfl rfl (x_cons (x_bw19 7 rfl rfl) (x_cons (x_bw19 9 rfl rfl) (x_cons (x_at 1 (by decide +kernel) rfl) (x_cons (x_bw0 1 rfl rfl) x_nilm)))) (x_bw19 10 rfl rfl) (by decide +kernel) ⟨Nat.le_of_ble_eq_true rfl, Nat.le_of_ble_eq_true rfl⟩) (x_cons (x_cokV (ci := 11) X xm52 rfl rfl rfl (x_cons (x_bw29 12 rfl rfl) (x_cons (x_bw29 14 rfl rfl) (x_cons (x_at 3 (by decide +kernel) rfl) (x_cons (x_bw0 1 rfl rfl) x_nilm)))) (x_bw29 15 rfl rfl) (by decide +kernel) ⟨Nat.le_of_ble_eq_true rfl, Nat.le_of_ble_eq_true rfl⟩) (x_cons (x_cokV (ci := 2) X xm67 rfl rfl rfl (x_cons (x_bw42 2 rfl rfl) (x_cons (x_bw42 3 rfl rfl) (x_cons (x_bw42 4 rfl rfl) (x_cons (x_bw0 2 rfl rfl) x_nilm)))) (x_bw42 5 rfl rfl) (by decide +kernel) ⟨Nat.le_of_ble_eq_true rfl, Nat.le_of_ble_eq_true rfl⟩) (x_cons (x_cokV (ci := 11) X xm92 rfl rfl rfl (x_cons (x_bw49 1 rfl rfl) (x_cons (x_bw49 3 rfl rfl) (x_cons (x_at 17 (by decide +kernel) rfl) (x_cons (x_bw0 1 rfl rfl) x_nilm)))) (x_bw49 4 rfl rfl) (by decide +kernel) ⟨Nat.le_of_ble_eq_true rfl, Nat.le_of_ble_eq_true rfl⟩) (x_cons (x_cokV (ci := 11) X xm121 rfl rfl rfl (x_cons (x_bw56 4 rfl rfl) (x_cons (x_bw56 6 rfl rfl) (x_cons (x_at 26 (by decide +kernel) rfl) (x_cons (x_bw0 1 rfl rfl) x_nilm)))) (x_bw56 7 rfl rfl) (by decide +kernel) ⟨Nat.le_of_ble_eq_true rfl, Nat.le_of_ble_eq_true rfl⟩) x_nilm))))), x_nilm, x_nilm, x_nilm⟩
set_option maxRecDepth 1000000 in
theorem xm122 : x_Met vwCl x_G x_Zs x_Tb x_Nb xM122 := x_main xT122 [] [] 2500 (by decide +kernel) (by decide +kernel) xk122 (by decide +kernel)
/-- TwinFires.chance(II)I -/
def xM123 : xM := (⟨"TwinFires", "chance", "(II)I"⟩, prog_1_method_33_code, 6, some .int, [xR false [0], xF, xF], [([xR false [0], xF, xF], some (xF))], [(0, 7), (0, 8), (10, 0), (10, 1), (10, 2), (10, 3), (10, 4), (10, 5), (10, 6), (10, 7), (32, 0), (33, 0), (34, 0), (42, 0)], (6, 138, 0, 0), none)
def xT123 : xTab := ([(12, 0, 0), (267, 2, 5), (273, 2, 0)], [], [], [], [], [], [], [(1, 276, 2, none, xM70), (0, 59, 2, some 0, xM8), (0, 101, 2, some 2, xM40), (0, 104, 1, some 0, xM52), (0, 137, 3, some 0, xM54), (0, 169, 2, some 2, xM67), (0, 224, 2, some 0, xM92), (0, 270, 2, some 0, xM121)], [], [], [])
set_option maxRecDepth 100000 in
set_option maxHeartbeats 4000000 in
theorem xk123 : x_TOK vwCl x_G x_Zs x_Tb x_Nb xM123 xT123 := by
  intro p l e s m args below meth c D U hx hb hml hts hown hK hK0 hU hnm hN
  have X : x_cx p s m args c D U xM123.2.1 xM123.2.2.1 vwCl x_Tb x_Nb xM123.1.cls := ⟨hx, hb, hml, hown, hts, hK, hK0, hU, hN, x_Tb_good, x_Nb_ok⟩
  exact ⟨(x_cons (fl8 hts) (x_cons (fl152 hts) (x_cons (fl153 hts) x_nilm))), x_nilm, x_nilm, x_nilm, x_nilm, x_nilm, x_nilm, (x_cons (x_cokS X xm70 (x_cons (x_bw56 8 rfl rfl) (x_cons (x_bw42 15 rfl rfl) (x_cons (x_bw0 1 rfl rfl) x_nilm))) (x_bw43 0 rfl rfl) (by decide +kernel) ⟨Nat.le_of_ble_eq_true rfl, Nat.le_of_ble_eq_true rfl⟩) (x_cons (x_cokV (ci := 11) X xm8 rfl rfl rfl (x_cons (x_bw19 7 rfl rfl) (x_cons (x_bw19 9 rfl rfl) (x_cons (x_at 1 (by decide +kernel) rfl) (x_cons (x_bw0 1 rfl rfl) x_nilm)))) (x_bw19 10 rfl rfl) (by decide +kernel) ⟨Nat.le_of_ble_eq_true rfl, Nat.le_of_ble_eq_true rfl⟩) (x_cons (x_cokV (ci := 2) X xm40 rfl rfl rfl (x_cons (x_bw29 8 rfl rfl) (x_cons (x_bw29 9 rfl rfl) (x_cons (x_bw29 10 rfl rfl) (x_cons (x_bw0 2 rfl rfl) x_nilm)))) (x_bw29 11 rfl rfl) (by decide +kernel) ⟨Nat.le_of_ble_eq_true rfl, Nat.le_of_ble_eq_true rfl⟩) (x_cons (x_cokV (ci := 11) X xm52 rfl rfl rfl (x_cons (x_bw29 12 rfl rfl) (x_cons (x_bw29 14 rfl rfl) (x_cons (x_at 3 (by decide +kernel) rfl) (x_cons (x_bw0 1 rfl rfl) x_nilm)))) (x_bw29 15 rfl rfl) (by decide +kernel) ⟨Nat.le_of_ble_eq_true rfl, Nat.le_of_ble_eq_true rfl⟩) (x_cons (x_cokV (ci := 11) X xm54 rfl rfl rfl (x_cons (x_bw33 7 rfl rfl) (x_cons (x_bw33 9 rfl rfl) (x_cons (x_at 7 (by decide +kernel) rfl) (x_cons (x_bw0 1 rfl rfl) x_nilm)))) (x_bw33 10 rfl rfl) (by decide +kernel) ⟨Nat.le_of_ble_eq_true rfl, Nat.le_of_ble_eq_true rfl⟩) (x_cons (x_cokV (ci := 2) X xm67 rfl rfl rfl (x_cons (x_bw42 2 rfl rfl) (x_cons (x_bw42 3 rfl rfl) (x_cons (x_bw42 4 rfl rfl) (x_cons (x_bw0 2 rfl rfl) x_nilm)))) (x_bw42 5 rfl rfl) (by decide +kernel) ⟨Nat.le_of_ble_eq_true rfl, Nat.le_of_ble_eq_true rfl⟩) (x_cons (x_cokV (ci := 11) X xm92 rfl rfl rfl (x_cons (x_bw49 1 rfl rfl) (x_cons (x_bw49 3 rfl rfl) (x_cons (x_at 17 (by decide +kernel) rfl) (x_cons (x_bw0 1 rfl rfl) x_nilm)))) (x_bw49 4 rfl rfl) (by decide +kernel) ⟨Nat.le_of_ble_eq_true rfl, Nat.le_of_ble_eq_true rfl⟩) (x_cons (x_cokV (ci := 11) X xm121 rfl rfl rfl (x_cons (x_bw56 4 rfl rfl) (x_cons (x_bw56 6 rfl rfl) (x_cons (x_at 26 (by decide +kernel) rfl) (x_cons (x_bw0 1 rfl rfl) x_nilm)))) (x_bw56 7 rfl rfl) (by decide +kernel) ⟨Nat.le_of_ble_eq_true rfl, Nat.le_of_ble_eq_true rfl⟩) x_nilm)))))))), x_nilm, x_nilm, x_nilm⟩
set_option maxRecDepth 1000000 in
theorem xm123 : x_Met vwCl x_G x_Zs x_Tb x_Nb xM123 := x_main xT123 [(60, ([(0, xR false [0]), (1, xI 0 1023), (2, xI 0 9), (3, xI 0 1023), (4, xF), (5, xI 0 10)], [], [(0, 11, 0, xR false [2])]), (5, true), [], false, 0, [])] [] 2500 (by decide +kernel) (by decide +kernel) xk123 (by decide +kernel)
/-- TwinFires.weight(II)J -/
def xM124 : xM := (⟨"TwinFires", "weight", "(II)J"⟩, prog_1_method_56_code, 7, some .long, [xR false [0], xF, xI 0 9], [([xR false [0], xF, xI 0 9], some (xFL))], [], (2, 42, 0, 0), none)
def xT124 : xTab := ([(12, 0, 0), (95, 2, 10), (264, 2, 4), (267, 2, 5), (273, 2, 0)], [], [], [], [], [], [], [(0, 330, 3, some 0, xM119)], [], [], [])
set_option maxRecDepth 100000 in
set_option maxHeartbeats 4000000 in
theorem xk124 : x_TOK vwCl x_G x_Zs x_Tb x_Nb xM124 xT124 := by
  intro p l e s m args below meth c D U hx hb hml hts hown hK hK0 hU hnm hN
  have X : x_cx p s m args c D U xM124.2.1 xM124.2.2.1 vwCl x_Tb x_Nb xM124.1.cls := ⟨hx, hb, hml, hown, hts, hK, hK0, hU, hN, x_Tb_good, x_Nb_ok⟩
  exact ⟨(x_cons (fl8 hts) (x_cons (fl58 hts) (x_cons (fl151 hts) (x_cons (fl152 hts) (x_cons (fl153 hts) x_nilm))))), x_nilm, x_nilm, x_nilm, x_nilm, x_nilm, x_nilm, (x_cons (x_cokV (ci := 11) X xm119 rfl rfl rfl (x_cons (x_bw56 13 rfl rfl) (x_cons (x_bw56 15 rfl rfl) (x_cons (x_at 28 (by decide +kernel) rfl) (x_cons (x_bw0 1 rfl rfl) x_nilm)))) (x_bw57 0 rfl rfl) (by decide +kernel) ⟨Nat.le_of_ble_eq_true rfl, Nat.le_of_ble_eq_true rfl⟩) x_nilm), x_nilm, x_nilm, x_nilm⟩
set_option maxRecDepth 1000000 in
theorem xm124 : x_Met vwCl x_G x_Zs x_Tb x_Nb xM124 := x_main xT124 [(21, ([(0, xR false [0]), (1, xF), (2, xI 0 9), (3, xF), (4, xFL), (6, xI 0 10)], [], [(0, 11, 0, xR false [2])]), (5, true), [], false, 0, [])] [] 2500 (by decide +kernel) (by decide +kernel) xk124 (by decide +kernel)
/-- TwinFires.lies(II)I -/
def xM125 : xM := (⟨"TwinFires", "lies", "(II)I"⟩, prog_1_method_34_code, 6, some .int, [xR false [0], xF, xF], [([xR false [0], xF, xF], some (xF))], [(0, 7), (0, 8), (10, 0), (10, 1), (10, 2), (10, 3), (10, 4), (10, 5), (10, 6), (10, 7), (32, 0), (33, 0), (34, 0), (42, 0)], (6, 138, 0, 0), none)
def xT125 : xTab := ([(12, 0, 0), (273, 2, 0)], [], [], [], [], [], [], [(1, 276, 2, none, xM70), (0, 59, 2, some 0, xM8), (0, 101, 2, some 2, xM40), (0, 104, 1, some 0, xM52), (0, 137, 3, some 0, xM54), (0, 169, 2, some 2, xM67), (0, 224, 2, some 0, xM92), (0, 279, 3, some 0, xM124)], [], [], [])
set_option maxRecDepth 100000 in
set_option maxHeartbeats 4000000 in
theorem xk125 : x_TOK vwCl x_G x_Zs x_Tb x_Nb xM125 xT125 := by
  intro p l e s m args below meth c D U hx hb hml hts hown hK hK0 hU hnm hN
  have X : x_cx p s m args c D U xM125.2.1 xM125.2.2.1 vwCl x_Tb x_Nb xM125.1.cls := ⟨hx, hb, hml, hown, hts, hK, hK0, hU, hN, x_Tb_good, x_Nb_ok⟩
  exact ⟨(x_cons (fl8 hts) (x_cons (fl153 hts) x_nilm)), x_nilm, x_nilm, x_nilm, x_nilm, x_nilm, x_nilm, (x_cons (x_cokS X xm70 (x_cons (x_bw56 8 rfl rfl) (x_cons (x_bw42 15 rfl rfl) (x_cons (x_bw0 1 rfl rfl) x_nilm))) (x_bw43 0 rfl rfl) (by decide +kernel) ⟨Nat.le_of_ble_eq_true rfl, Nat.le_of_ble_eq_true rfl⟩) (x_cons (x_cokV (ci := 11) X xm8 rfl rfl rfl (x_cons (x_bw19 7 rfl rfl) (x_cons (x_bw19 9 rfl rfl) (x_cons (x_at 1 (by decide +kernel) rfl) (x_cons (x_bw0 1 rfl rfl) x_nilm)))) (x_bw19 10 rfl rfl) (by decide +kernel) ⟨Nat.le_of_ble_eq_true rfl, Nat.le_of_ble_eq_true rfl⟩) (x_cons (x_cokV (ci := 2) X xm40 rfl rfl rfl (x_cons (x_bw29 8 rfl rfl) (x_cons (x_bw29 9 rfl rfl) (x_cons (x_bw29 10 rfl rfl) (x_cons (x_bw0 2 rfl rfl) x_nilm)))) (x_bw29 11 rfl rfl) (by decide +kernel) ⟨Nat.le_of_ble_eq_true rfl, Nat.le_of_ble_eq_true rfl⟩) (x_cons (x_cokV (ci := 11) X xm52 rfl rfl rfl (x_cons (x_bw29 12 rfl rfl) (x_cons (x_bw29 14 rfl rfl) (x_cons (x_at 3 (by decide +kernel) rfl) (x_cons (x_bw0 1 rfl rfl) x_nilm)))) (x_bw29 15 rfl rfl) (by decide +kernel) ⟨Nat.le_of_ble_eq_true rfl, Nat.le_of_ble_eq_true rfl⟩) (x_cons (x_cokV (ci := 11) X xm54 rfl rfl rfl (x_cons (x_bw33 7 rfl rfl) (x_cons (x_bw33 9 rfl rfl) (x_cons (x_at 7 (by decide +kernel) rfl) (x_cons (x_bw0 1 rfl rfl) x_nilm)))) (x_bw33 10 rfl rfl) (by decide +kernel) ⟨Nat.le_of_ble_eq_true rfl, Nat.le_of_ble_eq_true rfl⟩) (x_cons (x_cokV (ci := 2) X xm67 rfl rfl rfl (x_cons (x_bw42 2 rfl rfl) (x_cons (x_bw42 3 rfl rfl) (x_cons (x_bw42 4 rfl rfl) (x_cons (x_bw0 2 rfl rfl) x_nilm)))) (x_bw42 5 rfl rfl) (by decide +kernel) ⟨Nat.le_of_ble_eq_true rfl, Nat.le_of_ble_eq_true rfl⟩) (x_cons (x_cokV (ci := 11) X xm92 rfl rfl rfl (x_cons (x_bw49 1 rfl rfl) (x_cons (x_bw49 3 rfl rfl) (x_cons (x_at 17 (by decide +kernel) rfl) (x_cons (x_bw0 1 rfl rfl) x_nilm)))) (x_bw49 4 rfl rfl) (by decide +kernel) ⟨Nat.le_of_ble_eq_true rfl, Nat.le_of_ble_eq_true rfl⟩) (x_cons (x_cokV (ci := 11) X xm124 rfl rfl rfl (x_cons (x_bw57 9 rfl rfl) (x_cons (x_bw57 11 rfl rfl) (x_cons (x_at 29 (by decide +kernel) rfl) (x_cons (x_bw0 1 rfl rfl) x_nilm)))) (x_bw57 12 rfl rfl) (by decide +kernel) ⟨Nat.le_of_ble_eq_true rfl, Nat.le_of_ble_eq_true rfl⟩) x_nilm)))))))), x_nilm, x_nilm, x_nilm⟩
set_option maxRecDepth 1000000 in
theorem xm125 : x_Met vwCl x_G x_Zs x_Tb x_Nb xM125 := x_main xT125 [(61, ([(0, xR false [0]), (1, xI 0 1023), (2, xI 0 9), (3, xFL), (5, xI 0 10)], [], [(0, 11, 0, xR false [2])]), (4, true), [], false, 0, [])] [] 2500 (by decide +kernel) (by decide +kernel) xk125 (by decide +kernel)
/-- TwinFires.tell(III)I -/
def xM126 : xM := (⟨"TwinFires", "tell", "(III)I"⟩, prog_1_method_35_code, 6, some .int, [xR false [0], xF, xF, xF], [([xR false [0], xF, xF, xF], some (xF))], [(30, 0), (31, 0), (42, 0)], (3, 66, 0, 0), none)
/-- TwinFires$Land.nightChange(I)I -/
def xM127 : xM := (⟨"TwinFires$Land", "nightChange", "(I)I"⟩, prog_4_method_17_code, 3, some .int, [xR false [2], xI 0 11], [([xR false [2], xI 0 11], some (xI 0 512))], [], (1, 21, 0, 0), none)
def xT127 : xTab := ([(48, 2, 14)], [], [], [], [], [], [], [(0, 136, 2, some 2, xM40)], [], [], [])
set_option maxRecDepth 100000 in
set_option maxHeartbeats 4000000 in
theorem xk127 : x_TOK vwCl x_G x_Zs x_Tb x_Nb xM127 xT127 := by
  intro p l e s m args below meth c D U hx hb hml hts hown hK hK0 hU hnm hN
  have X : x_cx p s m args c D U xM127.2.1 xM127.2.2.1 vwCl x_Tb x_Nb xM127.1.cls := ⟨hx, hb, hml, hown, hts, hK, hK0, hU, hN, x_Tb_good, x_Nb_ok⟩
  exact ⟨(x_cons (fl125 hts) x_nilm), x_nilm, x_nilm, x_nilm, x_nilm, x_nilm, x_nilm, (x_cons (x_cokV (ci := 2) X xm40 rfl rfl rfl (x_cons (x_bw58 9 rfl rfl) (x_cons (x_bw29 9 rfl rfl) (x_cons (x_bw29 10 rfl rfl) (x_cons (x_bw0 2 rfl rfl) x_nilm)))) (x_bw29 11 rfl rfl) (by decide +kernel) ⟨Nat.le_of_ble_eq_true rfl, Nat.le_of_ble_eq_true rfl⟩) x_nilm), x_nilm, x_nilm, x_nilm⟩
set_option maxRecDepth 1000000 in
theorem xm127 : x_Met vwCl x_G x_Zs x_Tb x_Nb xM127 := x_main xT127 [] [] 2500 (by decide +kernel) (by decide +kernel) xk127 (by decide +kernel)
/-- TwinFires.night(II)I -/
def xM128 : xM := (⟨"TwinFires", "night", "(II)I"⟩, prog_1_method_36_code, 9, some .int, [xR false [0], xF, xF], [([xR false [0], xF, xF], some (xF))], [(10, 0), (10, 1), (10, 2), (10, 3), (10, 4), (10, 5), (10, 6), (10, 7), (32, 0), (33, 0), (34, 0), (42, 0)], (5, 118, 0, 0), none)
def xT128 : xTab := ([(12, 0, 0), (33, 0, 4), (95, 2, 10), (286, 2, 15)], [], [], [], [], [], [], [(1, 88, 3, none, xM6), (0, 59, 2, some 0, xM8), (0, 169, 2, some 2, xM67), (0, 200, 3, some 6, xM49), (0, 210, 3, some 0, xM81), (0, 289, 2, some 2, xM127)], [], [], [])
set_option maxRecDepth 100000 in
set_option maxHeartbeats 4000000 in
theorem xk128 : x_TOK vwCl x_G x_Zs x_Tb x_Nb xM128 xT128 := by
  intro p l e s m args below meth c D U hx hb hml hts hown hK hK0 hU hnm hN
  have X : x_cx p s m args c D U xM128.2.1 xM128.2.2.1 vwCl x_Tb x_Nb xM128.1.cls := ⟨hx, hb, hml, hown, hts, hK, hK0, hU, hN, x_Tb_good, x_Nb_ok⟩
  exact ⟨(x_cons (fl8 hts) (x_cons (fl102 hts) (x_cons (fl58 hts) (x_cons (fl155 hts) x_nilm)))), x_nilm, x_nilm, x_nilm, x_nilm, x_nilm, x_nilm, (x_cons (x_cokS X xm6 (x_cons (x_bw19 15 rfl rfl) (x_cons (x_bw19 1 rfl rfl) (x_cons (x_bw0 1 rfl rfl) x_nilm))) (x_bw19 2 rfl rfl) (by decide +kernel) ⟨Nat.le_of_ble_eq_true rfl, Nat.le_of_ble_eq_true rfl⟩) (x_cons (x_cokV (ci := 11) X xm8 rfl rfl rfl (x_cons (x_bw19 7 rfl rfl) (x_cons (x_bw19 9 rfl rfl) (x_cons (x_at 1 (by decide +kernel) rfl) (x_cons (x_bw0 1 rfl rfl) x_nilm)))) (x_bw19 10 rfl rfl) (by decide +kernel) ⟨Nat.le_of_ble_eq_true rfl, Nat.le_of_ble_eq_true rfl⟩) (x_cons (x_cokV (ci := 2) X xm67 rfl rfl rfl (x_cons (x_bw42 2 rfl rfl) (x_cons (x_bw42 3 rfl rfl) (x_cons (x_bw42 4 rfl rfl) (x_cons (x_bw0 2 rfl rfl) x_nilm)))) (x_bw42 5 rfl rfl) (by decide +kernel) ⟨Nat.le_of_ble_eq_true rfl, Nat.le_of_ble_eq_true rfl⟩) (x_cons (x_cokV (ci := 0) X xm49 rfl rfl rfl (x_cons (x_bw30 0 rfl rfl) (x_cons (x_bw30 1 rfl rfl) (x_cons (x_bw30 2 rfl rfl) (x_cons (x_bw0 6 rfl rfl) x_nilm)))) (x_bw30 3 rfl rfl) (by decide +kernel) ⟨Nat.le_of_ble_eq_true rfl, Nat.le_of_ble_eq_true rfl⟩) (x_cons (x_cokV (ci := 11) X xm81 rfl rfl rfl (x_cons (x_bw46 0 rfl rfl) (x_cons (x_bw46 2 rfl rfl) (x_cons (x_at 14 (by decide +kernel) rfl) (x_cons (x_bw0 1 rfl rfl) x_nilm)))) (x_bw46 3 rfl rfl) (by decide +kernel) ⟨Nat.le_of_ble_eq_true rfl, Nat.le_of_ble_eq_true rfl⟩) (x_cons (x_cokV (ci := 2) X xm127 rfl rfl rfl (x_cons (x_bw58 5 rfl rfl) (x_cons (x_bw58 6 rfl rfl) (x_cons (x_bw58 7 rfl rfl) (x_cons (x_bw0 2 rfl rfl) x_nilm)))) (x_bw58 8 rfl rfl) (by decide +kernel) ⟨Nat.le_of_ble_eq_true rfl, Nat.le_of_ble_eq_true rfl⟩) x_nilm)))))), x_nilm, x_nilm, x_nilm⟩
set_option maxRecDepth 1000000 in
theorem xm128 : x_Met vwCl x_G x_Zs x_Tb x_Nb xM128 := x_main xT128 [(58, ([(0, xR false [0]), (1, xI 0 1023), (2, xI 0 2), (3, xI 0 1023), (4, xI (-1) 11), (5, xF), (6, xI 0 12)], [], [(0, 11, 4, xR false [6]), (0, 11, 0, xR false [2])]), (6, true), [], false, 0, [])] [] 2500 (by decide +kernel) (by decide +kernel) xk128 (by decide +kernel)
/-- TwinFires.part(I)J -/
def xM129 : xM := (⟨"TwinFires", "part", "(I)J"⟩, prog_1_method_37_code, 2, some .long, [xR false [0], xF], [([xR false [0], xF], some (xFL))], [(42, 0)], (2, 45, 0, 0), none)
def xT129 : xTab := ([(48, 0, 7), (52, 0, 8)], [], [], [], [], [(292, -1000000)], [], [(1, 88, 3, none, xM69), (0, 221, 3, some 0, xM7)], [], [], [])
set_option maxRecDepth 100000 in
set_option maxHeartbeats 4000000 in
theorem xk129 : x_TOK vwCl x_G x_Zs x_Tb x_Nb xM129 xT129 := by
  intro p l e s m args below meth c D U hx hb hml hts hown hK hK0 hU hnm hN
  have X : x_cx p s m args c D U xM129.2.1 xM129.2.2.1 vwCl x_Tb x_Nb xM129.1.cls := ⟨hx, hb, hml, hown, hts, hK, hK0, hU, hN, x_Tb_good, x_Nb_ok⟩
  exact ⟨(x_cons (fl156 hts) (x_cons (fl157 hts) x_nilm)), x_nilm, x_nilm, x_nilm, x_nilm, (x_cons ⟨-1000000, rfl, (hts _ (x_bw58 14 rfl rfl))⟩ x_nilm), x_nilm, (x_cons (x_cokS X xm69 (x_cons (x_bw19 15 rfl rfl) (x_cons (x_bw19 1 rfl rfl) (x_cons (x_bw0 1 rfl rfl) x_nilm))) (x_bw19 2 rfl rfl) (by decide +kernel) ⟨Nat.le_of_ble_eq_true rfl, Nat.le_of_ble_eq_true rfl⟩) (x_cons (x_cokV (ci := 11) X xm7 rfl rfl rfl (x_cons (x_bw19 11 rfl rfl) (x_cons (x_bw19 13 rfl rfl) (x_cons (x_at 2 (by decide +kernel) rfl) (x_cons (x_bw0 1 rfl rfl) x_nilm)))) (x_bw19 14 rfl rfl) (by decide +kernel) ⟨Nat.le_of_ble_eq_true rfl, Nat.le_of_ble_eq_true rfl⟩) x_nilm)), x_nilm, x_nilm, x_nilm⟩
set_option maxRecDepth 1000000 in
theorem xm129 : x_Met vwCl x_G x_Zs x_Tb x_Nb xM129 := x_main xT129 [] [] 2500 (by decide +kernel) (by decide +kernel) xk129 (by decide +kernel)
/-- java/util/Arrays.fill([II)V -/
def xM130 : xM := (⟨"java/util/Arrays", "fill", "([II)V"⟩, prog_21_method_103_code, 4, none, [xR false [30], xI (-1) (-1)], [([xR false [30], xI (-1) (-1)], none)], [(30, 0)], (0, 0, 0, 0), none)
/-- TwinFires.from(I)I -/
def xM131 : xM := (⟨"TwinFires", "from", "(I)I"⟩, prog_1_method_39_code, 2, some .int, [xR false [0], xF], [([xR false [0], xF], some (xF))], [(2, 0), (2, 6), (2, 12), (19, 0), (20, 0), (21, 0), (22, 0), (23, 0), (24, 0), (25, 0), (26, 0), (27, 0), (28, 0), (29, 0), (30, 0), (31, 0), (42, 0)], (3, 66, 0, 0), none)
/-- TwinFires.status(I)I -/
def xM132 : xM := (⟨"TwinFires", "status", "(I)I"⟩, prog_1_method_40_code, 2, some .int, [xR false [0], xF], [([xR false [0], xF], some (xF))], [(42, 0)], (2, 45, 0, 0), none)
def xT132 : xTab := ([(44, 0, 6)], [], [], [], [], [], [], [(1, 88, 3, none, xM6), (0, 221, 3, some 0, xM7)], [], [], [])
set_option maxRecDepth 100000 in
set_option maxHeartbeats 4000000 in
theorem xk132 : x_TOK vwCl x_G x_Zs x_Tb x_Nb xM132 xT132 := by
  intro p l e s m args below meth c D U hx hb hml hts hown hK hK0 hU hnm hN
  have X : x_cx p s m args c D U xM132.2.1 xM132.2.2.1 vwCl x_Tb x_Nb xM132.1.cls := ⟨hx, hb, hml, hown, hts, hK, hK0, hU, hN, x_Tb_good, x_Nb_ok⟩
  exact ⟨(x_cons (fl7 hts) x_nilm), x_nilm, x_nilm, x_nilm, x_nilm, x_nilm, x_nilm, (x_cons (x_cokS X xm6 (x_cons (x_bw19 15 rfl rfl) (x_cons (x_bw19 1 rfl rfl) (x_cons (x_bw0 1 rfl rfl) x_nilm))) (x_bw19 2 rfl rfl) (by decide +kernel) ⟨Nat.le_of_ble_eq_true rfl, Nat.le_of_ble_eq_true rfl⟩) (x_cons (x_cokV (ci := 11) X xm7 rfl rfl rfl (x_cons (x_bw19 11 rfl rfl) (x_cons (x_bw19 13 rfl rfl) (x_cons (x_at 2 (by decide +kernel) rfl) (x_cons (x_bw0 1 rfl rfl) x_nilm)))) (x_bw19 14 rfl rfl) (by decide +kernel) ⟨Nat.le_of_ble_eq_true rfl, Nat.le_of_ble_eq_true rfl⟩) x_nilm)), x_nilm, x_nilm, x_nilm⟩
set_option maxRecDepth 1000000 in
theorem xm132 : x_Met vwCl x_G x_Zs x_Tb x_Nb xM132 := x_main xT132 [] [] 2500 (by decide +kernel) (by decide +kernel) xk132 (by decide +kernel)
/-- TwinFires$Land.reports()I -/
def xM133 : xM := (⟨"TwinFires$Land", "reports", "()I"⟩, prog_4_method_14_code, 3, some .int, [xR false [2]], [([xR false [2]], some (xF))], [], (0, 0, 0, 0), none)
def xT133 : xTab := ([(21, 2, 4), (63, 2, 0)], [], [], [], [], [], [], [], [], [], [])
set_option maxRecDepth 100000 in
set_option maxHeartbeats 4000000 in
theorem xk133 : x_TOK vwCl x_G x_Zs x_Tb x_Nb xM133 xT133 := by
  intro p l e s m args below meth c D U hx hb hml hts hown hK hK0 hU hnm hN
  have X : x_cx p s m args c D U xM133.2.1 xM133.2.2.1 vwCl x_Tb x_Nb xM133.1.cls := ⟨hx, hb, hml, hown, hts, hK, hK0, hU, hN, x_Tb_good, x_Nb_ok⟩
  exact ⟨(x_cons (fl4 hts) (x_cons (fl2 hts) x_nilm)), x_nilm, x_nilm, x_nilm, x_nilm, x_nilm, x_nilm, x_nilm, x_nilm, x_nilm, x_nilm⟩
set_option maxRecDepth 1000000 in
theorem xm133 : x_Met vwCl x_G x_Zs x_Tb x_Nb xM133 := x_main xT133 [(4, ([(0, xR false [2]), (1, xF), (2, xI 0 10)], [], []), (2, true), [], false, 0, [])] [] 2500 (by decide +kernel) (by decide +kernel) xk133 (by decide +kernel)
/-- TwinFires.count(I)I -/
def xM134 : xM := (⟨"TwinFires", "count", "(I)I"⟩, prog_1_method_41_code, 2, some .int, [xR false [0], xF], [([xR false [0], xF], some (xF))], [(42, 0)], (3, 66, 0, 0), none)
def xT134 : xTab := ([(12, 0, 0), (26, 0, 3), (145, 4, 2), (254, 2, 12), (273, 2, 0), (293, 2, 6)], [], [], [], [], [], [], [(0, 59, 2, some 0, xM8), (0, 296, 1, some 2, xM133)], [], [], [])
set_option maxRecDepth 100000 in
set_option maxHeartbeats 4000000 in
theorem xk134 : x_TOK vwCl x_G x_Zs x_Tb x_Nb xM134 xT134 := by
  intro p l e s m args below meth c D U hx hb hml hts hown hK hK0 hU hnm hN
  have X : x_cx p s m args c D U xM134.2.1 xM134.2.2.1 vwCl x_Tb x_Nb xM134.1.cls := ⟨hx, hb, hml, hown, hts, hK, hK0, hU, hN, x_Tb_good, x_Nb_ok⟩
  exact ⟨(x_cons (fl8 hts) (x_cons (fl120 hts) (x_cons (fl121 hts) (x_cons (fl142 hts) (x_cons (fl153 hts) (x_cons (fl159 hts) x_nilm)))))), x_nilm, x_nilm, x_nilm, x_nilm, x_nilm, x_nilm, (x_cons (x_cokV (ci := 11) X xm8 rfl rfl rfl (x_cons (x_bw19 7 rfl rfl) (x_cons (x_bw19 9 rfl rfl) (x_cons (x_at 1 (by decide +kernel) rfl) (x_cons (x_bw0 1 rfl rfl) x_nilm)))) (x_bw19 10 rfl rfl) (by decide +kernel) ⟨Nat.le_of_ble_eq_true rfl, Nat.le_of_ble_eq_true rfl⟩) (x_cons (x_cokV (ci := 2) X xm133 rfl rfl rfl (x_cons (x_bw59 15 rfl rfl) (x_cons (x_bw60 0 rfl rfl) (x_cons (x_bw60 1 rfl rfl) (x_cons (x_bw0 2 rfl rfl) x_nilm)))) (x_bw60 2 rfl rfl) (by decide +kernel) ⟨Nat.le_of_ble_eq_true rfl, Nat.le_of_ble_eq_true rfl⟩) x_nilm)), x_nilm, x_nilm, x_nilm⟩
set_option maxRecDepth 1000000 in
theorem xm134 : x_Met vwCl x_G x_Zs x_Tb x_Nb xM134 := x_main xT134 [] [] 2500 (by decide +kernel) (by decide +kernel) xk134 (by decide +kernel)
/-- TwinFires.mixed(JJ)J -/
def xM135 : xM := (⟨"TwinFires", "mixed", "(JJ)J"⟩, prog_1_method_45_code, 4, some .long, [xFL, xFL], [([xFL, xFL], some (xFL))], [], (0, 0, 0, 0), none)
def xT135 : xTab := ([], [], [], [], [], [], [(315, 31)], [], [], [], [])
set_option maxRecDepth 100000 in
set_option maxHeartbeats 4000000 in
theorem xk135 : x_TOK vwCl x_G x_Zs x_Tb x_Nb xM135 xT135 := by
  intro p l e s m args below meth c D U hx hb hml hts hown hK hK0 hU hnm hN
  have X : x_cx p s m args c D U xM135.2.1 xM135.2.2.1 vwCl x_Tb x_Nb xM135.1.cls := ⟨hx, hb, hml, hown, hts, hK, hK0, hU, hN, x_Tb_good, x_Nb_ok⟩
  exact ⟨x_nilm, x_nilm, x_nilm, x_nilm, x_nilm, x_nilm, (x_cons ⟨31, rfl, (hts _ (x_bw60 11 rfl rfl))⟩ x_nilm), x_nilm, x_nilm, x_nilm, x_nilm⟩
set_option maxRecDepth 1000000 in
theorem xm135 : x_Met vwCl x_G x_Zs x_Tb x_Nb xM135 := x_main xT135 [] [] 2500 (by decide +kernel) (by decide +kernel) xk135 (by decide +kernel)
/-- TwinFires$Land.digestOfHills(J)J -/
def xM136 : xM := (⟨"TwinFires$Land", "digestOfHills", "(J)J"⟩, prog_4_method_18_code, 6, some .long, [xR false [2], xFL], [([xR false [2], xFL], some (xFL))], [], (1, 23, 0, 0), none)
def xT136 : xTab := ([(9, 2, 1), (15, 2, 2), (18, 2, 3), (21, 2, 4), (24, 2, 5), (63, 2, 0)], [], [], [], [], [], [], [(1, 140, 2, none, xM135)], [], [], [])
set_option maxRecDepth 100000 in
set_option maxHeartbeats 4000000 in
theorem xk136 : x_TOK vwCl x_G x_Zs x_Tb x_Nb xM136 xT136 := by
  intro p l e s m args below meth c D U hx hb hml hts hown hK hK0 hU hnm hN
  have X : x_cx p s m args c D U xM136.2.1 xM136.2.2.1 vwCl x_Tb x_Nb xM136.1.cls := ⟨hx, hb, hml, hown, hts, hK, hK0, hU, hN, x_Tb_good, x_Nb_ok⟩
  exact ⟨(x_cons (fl0 hts) (x_cons (fl1 hts) (x_cons (fl3 hts) (x_cons (fl4 hts) (x_cons (fl5 hts) (x_cons (fl2 hts) x_nilm)))))), x_nilm, x_nilm, x_nilm, x_nilm, x_nilm, x_nilm, (x_cons (x_cokSN (host := "TwinFires") X xm135 (x_cons (x_bw60 9 rfl rfl) (x_cons (x_bw0 1 rfl rfl) x_nilm)) (x_bn61 0 rfl rfl) (x_bw60 10 rfl rfl) (by decide +kernel) ⟨Nat.le_of_ble_eq_true rfl, Nat.le_of_ble_eq_true rfl⟩) x_nilm), x_nilm, x_nilm, x_nilm⟩
set_option maxRecDepth 1000000 in
theorem xm136 : x_Met vwCl x_G x_Zs x_Tb x_Nb xM136 := x_main xT136 [(5, ([(0, xR false [2]), (1, xFL), (3, xFL), (5, xI 0 10)], [], []), (3, true), [], false, 0, [])] [] 2500 (by decide +kernel) (by decide +kernel) xk136 (by decide +kernel)
/-- TwinFires$Land.digestOfThings(J)J -/
def xM137 : xM := (⟨"TwinFires$Land", "digestOfThings", "(J)J"⟩, prog_4_method_19_code, 7, some .long, [xR false [2], xFL], [([xR false [2], xFL], some (xFL))], [], (1, 23, 0, 0), none)
def xT137 : xTab := ([(29, 2, 7), (33, 2, 8), (36, 2, 9), (73, 2, 6), (144, 11, 0), (144, 12, 0), (144, 13, 0), (144, 14, 0), (144, 15, 0), (144, 16, 0), (147, 11, 1), (147, 12, 1), (147, 13, 1), (147, 14, 1), (147, 15, 1), (147, 16, 1), (149, 11, 2), (149, 12, 2), (149, 13, 2), (149, 14, 2), (149, 15, 2), (149, 16, 2), (151, 11, 3), (151, 12, 3), (151, 13, 3), (151, 14, 3), (151, 15, 3), (151, 16, 3), (154, 11, 4), (154, 12, 4), (154, 13, 4), (154, 14, 4), (154, 15, 4), (154, 16, 4)], [], [], [], [], [], [], [(1, 140, 2, none, xM135)], [], [], [])
set_option maxRecDepth 100000 in
set_option maxHeartbeats 4000000 in
theorem xk137 : x_TOK vwCl x_G x_Zs x_Tb x_Nb xM137 xT137 := by
  intro p l e s m args below meth c D U hx hb hml hts hown hK hK0 hU hnm hN
  have X : x_cx p s m args c D U xM137.2.1 xM137.2.2.1 vwCl x_Tb x_Nb xM137.1.cls := ⟨hx, hb, hml, hown, hts, hK, hK0, hU, hN, x_Tb_good, x_Nb_ok⟩
  exact ⟨(x_cons (fl39 hts) (x_cons (fl40 hts) (x_cons (fl41 hts) (x_cons (fl42 hts) (x_cons (fl160 hts) (x_cons (fl161 hts) (x_cons (fl162 hts) (x_cons (fl163 hts) (x_cons (fl164 hts) (x_cons (fl165 hts) (x_cons (fl166 hts) (x_cons (fl167 hts) (x_cons (fl168 hts) (x_cons (fl169 hts) (x_cons (fl170 hts) (x_cons (fl171 hts) (x_cons (fl172 hts) (x_cons (fl173 hts) (x_cons (fl174 hts) (x_cons (fl175 hts) (x_cons (fl176 hts) (x_cons (fl177 hts) (x_cons (fl178 hts) (x_cons (fl179 hts) (x_cons (fl180 hts) (x_cons (fl181 hts) (x_cons (fl182 hts) (x_cons (fl183 hts) (x_cons (fl184 hts) (x_cons (fl185 hts) (x_cons (fl186 hts) (x_cons (fl187 hts) (x_cons (fl188 hts) (x_cons (fl189 hts) x_nilm)))))))))))))))))))))))))))))))))), x_nilm, x_nilm, x_nilm, x_nilm, x_nilm, x_nilm, (x_cons (x_cokSN (host := "TwinFires") X xm135 (x_cons (x_bw60 9 rfl rfl) (x_cons (x_bw0 1 rfl rfl) x_nilm)) (x_bn61 0 rfl rfl) (x_bw60 10 rfl rfl) (by decide +kernel) ⟨Nat.le_of_ble_eq_true rfl, Nat.le_of_ble_eq_true rfl⟩) x_nilm), x_nilm, x_nilm, x_nilm⟩
set_option maxRecDepth 1000000 in
theorem xm137 : x_Met vwCl x_G x_Zs x_Tb x_Nb xM137 := x_main xT137 [(5, ([(0, xR false [2]), (1, xFL), (3, xFL), (5, xI 0 8)], [], []), (3, true), [], false, 0, [])] [] 2500 (by decide +kernel) (by decide +kernel) xk137 (by decide +kernel)
/-- TwinFires$Land.digestOfTimes(J)J -/
def xM138 : xM := (⟨"TwinFires$Land", "digestOfTimes", "(J)J"⟩, prog_4_method_20_code, 6, some .long, [xR false [2], xFL], [([xR false [2], xFL], some (xFL))], [], (1, 23, 0, 0), none)
def xT138 : xTab := ([(39, 2, 10), (42, 2, 11), (45, 2, 13), (48, 2, 14), (51, 2, 15), (76, 2, 12)], [], [], [], [], [], [], [(1, 140, 2, none, xM135)], [], [], [])
set_option maxRecDepth 100000 in
set_option maxHeartbeats 4000000 in
theorem xk138 : x_TOK vwCl x_G x_Zs x_Tb x_Nb xM138 xT138 := by
  intro p l e s m args below meth c D U hx hb hml hts hown hK hK0 hU hnm hN
  have X : x_cx p s m args c D U xM138.2.1 xM138.2.2.1 vwCl x_Tb x_Nb xM138.1.cls := ⟨hx, hb, hml, hown, hts, hK, hK0, hU, hN, x_Tb_good, x_Nb_ok⟩
  exact ⟨(x_cons (fl44 hts) (x_cons (fl123 hts) (x_cons (fl124 hts) (x_cons (fl125 hts) (x_cons (fl126 hts) (x_cons (fl127 hts) x_nilm)))))), x_nilm, x_nilm, x_nilm, x_nilm, x_nilm, x_nilm, (x_cons (x_cokSN (host := "TwinFires") X xm135 (x_cons (x_bw60 9 rfl rfl) (x_cons (x_bw0 1 rfl rfl) x_nilm)) (x_bn61 0 rfl rfl) (x_bw60 10 rfl rfl) (by decide +kernel) ⟨Nat.le_of_ble_eq_true rfl, Nat.le_of_ble_eq_true rfl⟩) x_nilm), x_nilm, x_nilm, x_nilm⟩
set_option maxRecDepth 1000000 in
theorem xm138 : x_Met vwCl x_G x_Zs x_Tb x_Nb xM138 := x_main xT138 [(5, ([(0, xR false [2]), (1, xFL), (3, xFL), (5, xI 0 4)], [], []), (3, true), [], false, 0, []), (33, ([(0, xR false [2]), (1, xFL), (3, xFL), (5, xI 0 12)], [], []), (3, true), [], false, 0, []), (62, ([(0, xR false [2]), (1, xFL), (3, xFL), (5, xI 0 8)], [], []), (3, true), [], false, 0, []), (93, ([(0, xR false [2]), (1, xFL), (3, xFL), (5, xI 0 12)], [], [(0, 2, 12, xI 0 8)]), (3, true), [], false, 0, [])] [] 2500 (by decide +kernel) (by decide +kernel) xk138 (by decide +kernel)
/-- TwinFires.digest()J -/
def xM139 : xM := (⟨"TwinFires", "digest", "()J"⟩, prog_1_method_42_code, 3, some .long, [xR false [0]], [([xR false [0]], some (xFL))], [], (2, 49, 0, 0), none)
def xT139 : xTab := ([(12, 0, 0), (26, 0, 3), (48, 0, 7), (52, 0, 8), (145, 4, 2), (254, 2, 12), (273, 2, 0), (293, 2, 6)], [], [], [], [], [], [(299, 619)], [(1, 301, 2, none, xM135), (0, 296, 1, some 2, xM133), (0, 305, 2, some 2, xM136), (0, 309, 2, some 2, xM137), (0, 312, 2, some 2, xM138)], [], [], [])
set_option maxRecDepth 100000 in
set_option maxHeartbeats 4000000 in
theorem xk139 : x_TOK vwCl x_G x_Zs x_Tb x_Nb xM139 xT139 := by
  intro p l e s m args below meth c D U hx hb hml hts hown hK hK0 hU hnm hN
  have X : x_cx p s m args c D U xM139.2.1 xM139.2.2.1 vwCl x_Tb x_Nb xM139.1.cls := ⟨hx, hb, hml, hown, hts, hK, hK0, hU, hN, x_Tb_good, x_Nb_ok⟩
  exact ⟨(x_cons (fl8 hts) (x_cons (fl120 hts) (x_cons (fl156 hts) (x_cons (fl157 hts) (x_cons (fl121 hts) (x_cons (fl142 hts) (x_cons (fl153 hts) (x_cons (fl159 hts) x_nilm)))))))), x_nilm, x_nilm, x_nilm, x_nilm, x_nilm, (x_cons ⟨619, rfl, (hts _ (x_bw60 7 rfl rfl))⟩ x_nilm), (x_cons (x_cokS X xm135 (x_cons (x_bw60 8 rfl rfl) (x_cons (x_bw60 9 rfl rfl) (x_cons (x_bw0 1 rfl rfl) x_nilm))) (x_bw60 10 rfl rfl) (by decide +kernel) ⟨Nat.le_of_ble_eq_true rfl, Nat.le_of_ble_eq_true rfl⟩) (x_cons (x_cokV (ci := 2) X xm133 rfl rfl rfl (x_cons (x_bw59 15 rfl rfl) (x_cons (x_bw60 0 rfl rfl) (x_cons (x_bw60 1 rfl rfl) (x_cons (x_bw0 2 rfl rfl) x_nilm)))) (x_bw60 2 rfl rfl) (by decide +kernel) ⟨Nat.le_of_ble_eq_true rfl, Nat.le_of_ble_eq_true rfl⟩) (x_cons (x_cokV (ci := 2) X xm136 rfl rfl rfl (x_cons (x_bw60 12 rfl rfl) (x_cons (x_bw60 13 rfl rfl) (x_cons (x_bw60 14 rfl rfl) (x_cons (x_bw0 2 rfl rfl) x_nilm)))) (x_bw60 15 rfl rfl) (by decide +kernel) ⟨Nat.le_of_ble_eq_true rfl, Nat.le_of_ble_eq_true rfl⟩) (x_cons (x_cokV (ci := 2) X xm137 rfl rfl rfl (x_cons (x_bw61 1 rfl rfl) (x_cons (x_bw61 2 rfl rfl) (x_cons (x_bw61 3 rfl rfl) (x_cons (x_bw0 2 rfl rfl) x_nilm)))) (x_bw61 4 rfl rfl) (by decide +kernel) ⟨Nat.le_of_ble_eq_true rfl, Nat.le_of_ble_eq_true rfl⟩) (x_cons (x_cokV (ci := 2) X xm138 rfl rfl rfl (x_cons (x_bw61 5 rfl rfl) (x_cons (x_bw61 6 rfl rfl) (x_cons (x_bw61 7 rfl rfl) (x_cons (x_bw0 2 rfl rfl) x_nilm)))) (x_bw61 8 rfl rfl) (by decide +kernel) ⟨Nat.le_of_ble_eq_true rfl, Nat.le_of_ble_eq_true rfl⟩) x_nilm))))), x_nilm, x_nilm, x_nilm⟩
set_option maxRecDepth 1000000 in
theorem xm139 : x_Met vwCl x_G x_Zs x_Tb x_Nb xM139 := x_main xT139 [] [] 2500 (by decide +kernel) (by decide +kernel) xk139 (by decide +kernel)
/-- TwinFiresModel.begins()V -/
def xM140 : xM := (⟨"TwinFiresModel", "begins", "()V"⟩, prog_14_method_4_code, 1, none, [xR false [17]], [([xR false [17]], none)], [(46, 0)], (0, 0, 0, 0), none)
/-- TwinFiresModel.refuses(II)I -/
def xM142 : xM := (⟨"TwinFiresModel", "refuses", "(II)I"⟩, prog_14_method_5_code, 3, some .int, [xR false [17], xI 0 2, xF], [([xR false [17], xI 0 2, xF], some (xF))], [(50, 0)], (0, 0, 0, 0), none)
def xT142 : xTab := ([(23, 17, 4), (72, 17, 5)], [], [], [], [], [], [], [], [], [], [])
set_option maxRecDepth 100000 in
set_option maxHeartbeats 4000000 in
theorem xk142 : x_TOK vwCl x_G x_Zs x_Tb x_Nb xM142 xT142 := by
  intro p l e s m args below meth c D U hx hb hml hts hown hK hK0 hU hnm hN
  have X : x_cx p s m args c D U xM142.2.1 xM142.2.2.1 vwCl x_Tb x_Nb xM142.1.cls := ⟨hx, hb, hml, hown, hts, hK, hK0, hU, hN, x_Tb_good, x_Nb_ok⟩
  exact ⟨(x_cons (fl191 hts) (x_cons (fl192 hts) x_nilm)), x_nilm, x_nilm, x_nilm, x_nilm, x_nilm, x_nilm, x_nilm, x_nilm, x_nilm, x_nilm⟩
set_option maxRecDepth 1000000 in
theorem xm142 : x_Met vwCl x_G x_Zs x_Tb x_Nb xM142 := x_main xT142 [] [] 2500 (by decide +kernel) (by decide +kernel) xk142 (by decide +kernel)
/-- TwinFiresModel.bad()I -/
def xM143 : xM := (⟨"TwinFiresModel", "bad", "()I"⟩, prog_14_method_6_code, 1, some .int, [xR false [17]], [([xR false [17]], some (xF))], [(50, 0)], (1, 22, 0, 0), none)
def xT143 : xTab := ([], [], [], [], [], [], [], [(0, 76, 3, some 17, xM142)], [], [], [])
set_option maxRecDepth 100000 in
set_option maxHeartbeats 4000000 in
theorem xk143 : x_TOK vwCl x_G x_Zs x_Tb x_Nb xM143 xT143 := by
  intro p l e s m args below meth c D U hx hb hml hts hown hK hK0 hU hnm hN
  have X : x_cx p s m args c D U xM143.2.1 xM143.2.2.1 vwCl x_Tb x_Nb xM143.1.cls := ⟨hx, hb, hml, hown, hts, hK, hK0, hU, hN, x_Tb_good, x_Nb_ok⟩
  exact ⟨x_nilm, x_nilm, x_nilm, x_nilm, x_nilm, x_nilm, x_nilm, (x_cons (x_cokV (ci := 12) X xm142 rfl rfl rfl (x_cons (x_bw68 7 rfl rfl) (x_cons (x_bw68 9 rfl rfl) (x_cons (x_at 33 (by decide +kernel) rfl) (x_cons (x_bw0 9 rfl rfl) x_nilm)))) (x_bw68 10 rfl rfl) (by decide +kernel) ⟨Nat.le_of_ble_eq_true rfl, Nat.le_of_ble_eq_true rfl⟩) x_nilm), x_nilm, x_nilm, x_nilm⟩
set_option maxRecDepth 1000000 in
theorem xm143 : x_Met vwCl x_G x_Zs x_Tb x_Nb xM143 := x_main xT143 [] [] 2500 (by decide +kernel) (by decide +kernel) xk143 (by decide +kernel)
/-- TwinFiresModel.in(JJJ)Z -/
def xM144 : xM := (⟨"TwinFiresModel", "in", "(JJJ)Z"⟩, prog_14_method_2_code, 6, some .boolean, [xFL, xL 0 0, xL 99 99], [([xL 0 99, xL 0 0, xL 99 99], some (xI 1 1)), ([xFL, xL 0 0, xL 99 99], some (xI 0 0))], [], (0, 0, 0, 0), none)
def xT144 : xTab := ([], [], [], [], [], [], [], [], [], [], [])
set_option maxRecDepth 100000 in
set_option maxHeartbeats 4000000 in
theorem xk144 : x_TOK vwCl x_G x_Zs x_Tb x_Nb xM144 xT144 := by
  intro p l e s m args below meth c D U hx hb hml hts hown hK hK0 hU hnm hN
  have X : x_cx p s m args c D U xM144.2.1 xM144.2.2.1 vwCl x_Tb x_Nb xM144.1.cls := ⟨hx, hb, hml, hown, hts, hK, hK0, hU, hN, x_Tb_good, x_Nb_ok⟩
  exact ⟨x_nilm, x_nilm, x_nilm, x_nilm, x_nilm, x_nilm, x_nilm, x_nilm, x_nilm, x_nilm, x_nilm⟩
set_option maxRecDepth 1000000 in
theorem xm144 : x_Met vwCl x_G x_Zs x_Tb x_Nb xM144 := x_main xT144 [] [] 2500 (by decide +kernel) (by decide +kernel) xk144 (by decide +kernel)
/-- TwinFiresModel.ofHill(II)I -/
def xM145 : xM := (⟨"TwinFiresModel", "ofHill", "(II)I"⟩, prog_14_method_17_code, 3, some .int, [xR false [17], xI 0 9, xI 0 4], [([xR false [17], xI 0 9, xI 0 4], some (xF))], [], (0, 0, 0, 0), none)
def xT145 : xTab := ([(7, 17, 0)], [], [], [], [], [], [], [], [], [], [])
set_option maxRecDepth 100000 in
set_option maxHeartbeats 4000000 in
theorem xk145 : x_TOK vwCl x_G x_Zs x_Tb x_Nb xM145 xT145 := by
  intro p l e s m args below meth c D U hx hb hml hts hown hK hK0 hU hnm hN
  have X : x_cx p s m args c D U xM145.2.1 xM145.2.2.1 vwCl x_Tb x_Nb xM145.1.cls := ⟨hx, hb, hml, hown, hts, hK, hK0, hU, hN, x_Tb_good, x_Nb_ok⟩
  exact ⟨(x_cons (fl190 hts) x_nilm), x_nilm, x_nilm, x_nilm, x_nilm, x_nilm, x_nilm, x_nilm, x_nilm, x_nilm, x_nilm⟩
set_option maxRecDepth 1000000 in
theorem xm145 : x_Met vwCl x_G x_Zs x_Tb x_Nb xM145 := x_main xT145 [] [] 2500 (by decide +kernel) (by decide +kernel) xk145 (by decide +kernel)
/-- TwinFiresModel.full()I -/
def xM146 : xM := (⟨"TwinFiresModel", "full", "()I"⟩, prog_14_method_8_code, 1, some .int, [xR false [17]], [([xR false [17]], some (xF))], [(50, 0)], (1, 22, 0, 0), none)
/-- TwinFiresModel.hill(III)I -/
def xM147 : xM := (⟨"TwinFiresModel", "hill", "(III)I"⟩, prog_14_method_19_code, 6, some .int, [xR false [17], xF, xF, xF], [([xR false [17], xF, xF, xF], some (xF))], [(46, 0), (50, 0)], (2, 42, 0, 0), none)
/-- TwinFiresModel.in(JJJ)Z -/
def xM148 : xM := (⟨"TwinFiresModel", "in", "(JJJ)Z"⟩, prog_14_method_2_code, 6, some .boolean, [xFL, xFL, xFL], [([xFL, xFL, xFL], some (xI 1 1)), ([xFL, xFL, xFL], some (xI 0 0))], [], (0, 0, 0, 0), none)
