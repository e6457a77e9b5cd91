/-- TwinFiresModel.readOn(III)I -/
def xM211 : xM := (⟨"TwinFiresModel", "readOn", "(III)I"⟩, prog_14_method_65_code, 5, some .int, [xR false [17], xF, xI 0 9, xI 0 8], [([xR false [17], xF, xI 0 9, xI 0 8], some (xI 0 8))], [], (1, 22, 0, 0), none)
def xT211 : xTab := ([(7, 17, 0), (26, 17, 8)], [], [], [], [], [], [], [(1, 148, 1, none, xM189)], [], [], [])
set_option maxRecDepth 100000 in
set_option maxHeartbeats 4000000 in
theorem xk211 : x_TOK vwCl x_G x_Zs x_Tb x_Nb xM211 xT211 := by
  intro p l e s m args below meth c D U hx hb hml hts hown hK hK0 hU hnm hN
  have X : x_cx p s m args c D U xM211.2.1 xM211.2.2.1 vwCl x_Tb x_Nb xM211.1.cls := ⟨hx, hb, hml, hown, hts, hK, hK0, hU, hN, x_Tb_good, x_Nb_ok⟩
  exact ⟨(x_cons (fl190 hts) (x_cons (fl199 hts) x_nilm)), x_nilm, x_nilm, x_nilm, x_nilm, x_nilm, x_nilm, (x_cons (x_cokS X xm189 (x_cons (x_bw78 4 rfl rfl) (x_cons (x_bw78 5 rfl rfl) (x_cons (x_bw0 9 rfl rfl) x_nilm))) (x_bw78 6 rfl rfl) (by decide +kernel) ⟨Nat.le_of_ble_eq_true rfl, Nat.le_of_ble_eq_true rfl⟩) x_nilm), x_nilm, x_nilm, x_nilm⟩
set_option maxRecDepth 1000000 in
theorem xm211 : x_Met vwCl x_G x_Zs x_Tb x_Nb xM211 := x_main xT211 [] [] 2500 (by decide +kernel) (by decide +kernel) xk211 (by decide +kernel)
/-- TwinFiresModel.report(II)I -/
def xM213 : xM := (⟨"TwinFiresModel", "report", "(II)I"⟩, prog_14_method_67_code, 3, some .int, [xR false [17], xF, xF], [([xR false [17], xF, xF], some (xF))], [(46, 0), (50, 0)], (2, 46, 0, 0), none)
/-- TwinFiresModel.blame(II)I -/
def xM214 : xM := (⟨"TwinFiresModel", "blame", "(II)I"⟩, prog_14_method_68_code, 3, some .int, [xR false [17], xF, xF], [([xR false [17], xF, xF], some (xF))], [(46, 0), (50, 0)], (2, 46, 0, 0), none)
/-- TwinFiresModel.so(IIZ)I -/
def xM215 : xM := (⟨"TwinFiresModel", "so", "(IIZ)I"⟩, prog_14_method_69_code, 6, some .int, [xR false [17], xF, xI 0 9, xI 0 1], [([xR false [17], xF, xI 0 9, xI 0 1], some (xF))], [], (1, 22, 0, 0), none)
def xT215 : xTab := ([(7, 17, 0), (26, 17, 8)], [], [], [], [], [], [], [(1, 148, 1, none, xM189), (0, 99, 3, some 17, xM145)], [], [], [])
set_option maxRecDepth 100000 in
set_option maxHeartbeats 4000000 in
theorem xk215 : x_TOK vwCl x_G x_Zs x_Tb x_Nb xM215 xT215 := by
  intro p l e s m args below meth c D U hx hb hml hts hown hK hK0 hU hnm hN
  have X : x_cx p s m args c D U xM215.2.1 xM215.2.2.1 vwCl x_Tb x_Nb xM215.1.cls := ⟨hx, hb, hml, hown, hts, hK, hK0, hU, hN, x_Tb_good, x_Nb_ok⟩
  exact ⟨(x_cons (fl190 hts) (x_cons (fl199 hts) x_nilm)), x_nilm, x_nilm, x_nilm, x_nilm, x_nilm, x_nilm, (x_cons (x_cokS X xm189 (x_cons (x_bw78 4 rfl rfl) (x_cons (x_bw78 5 rfl rfl) (x_cons (x_bw0 9 rfl rfl) x_nilm))) (x_bw78 6 rfl rfl) (by decide +kernel) ⟨Nat.le_of_ble_eq_true rfl, Nat.le_of_ble_eq_true rfl⟩) (x_cons (x_cokV (ci := 12) X xm145 rfl rfl rfl (x_cons (x_bw67 15 rfl rfl) (x_cons (x_bw68 1 rfl rfl) (x_cons (x_at 31 (by decide +kernel) rfl) (x_cons (x_bw0 9 rfl rfl) x_nilm)))) (x_bw68 2 rfl rfl) (by decide +kernel) ⟨Nat.le_of_ble_eq_true rfl, Nat.le_of_ble_eq_true rfl⟩) x_nilm)), x_nilm, x_nilm, x_nilm⟩
set_option maxRecDepth 1000000 in
theorem xm215 : x_Met vwCl x_G x_Zs x_Tb x_Nb xM215 := x_main xT215 [(6, ([(0, xR false [17]), (1, xF), (2, xI 0 9), (3, xI 0 1), (4, xF), (5, xI 0 10)], [], []), (5, true), [], false, 0, [])] [] 2500 (by decide +kernel) (by decide +kernel) xk215 (by decide +kernel)
/-- TwinFiresModel.withoutOf(I)I -/
def xM216 : xM := (⟨"TwinFiresModel", "withoutOf", "(I)I"⟩, prog_14_method_70_code, 4, some .int, [xR false [17], xF], [([xR false [17], xF], some (xI 0 1023))], [], (2, 47, 0, 0), none)
def xT216 : xTab := ([(7, 17, 0)], [], [], [], [], [], [], [(0, 275, 4, some 17, xM215)], [], [], [])
set_option maxRecDepth 100000 in
set_option maxHeartbeats 4000000 in
theorem xk216 : x_TOK vwCl x_G x_Zs x_Tb x_Nb xM216 xT216 := by
  intro p l e s m args below meth c D U hx hb hml hts hown hK hK0 hU hnm hN
  have X : x_cx p s m args c D U xM216.2.1 xM216.2.2.1 vwCl x_Tb x_Nb xM216.1.cls := ⟨hx, hb, hml, hown, hts, hK, hK0, hU, hN, x_Tb_good, x_Nb_ok⟩
  exact ⟨(x_cons (fl190 hts) x_nilm), x_nilm, x_nilm, x_nilm, x_nilm, x_nilm, x_nilm, (x_cons (x_cokV (ci := 12) X xm215 rfl rfl rfl (x_cons (x_bw85 5 rfl rfl) (x_cons (x_bw85 7 rfl rfl) (x_cons (x_at 60 (by decide +kernel) rfl) (x_cons (x_bw0 9 rfl rfl) x_nilm)))) (x_bw85 8 rfl rfl) (by decide +kernel) ⟨Nat.le_of_ble_eq_true rfl, Nat.le_of_ble_eq_true rfl⟩) x_nilm), x_nilm, x_nilm, x_nilm⟩
set_option maxRecDepth 1000000 in
theorem xm216 : x_Met vwCl x_G x_Zs x_Tb x_Nb xM216 := x_main xT216 [(4, ([(0, xR false [17]), (1, xF), (2, xI 0 1023), (3, xI 0 10)], [], []), (3, true), [], false, 0, [])] [] 2500 (by decide +kernel) (by decide +kernel) xk216 (by decide +kernel)
/-- TwinFiresModel.without(I)I -/
def xM217 : xM := (⟨"TwinFiresModel", "without", "(I)I"⟩, prog_14_method_71_code, 2, some .int, [xR false [17], xF], [([xR false [17], xF], some (xF))], [(50, 0), (51, 0)], (5, 127, 0, 0), none)
def xT217 : xTab := ([], [], [], [], [], [], [], [(0, 102, 1, some 17, xM143), (0, 126, 1, some 17, xM164), (0, 237, 2, some 17, xM184), (0, 240, 1, some 17, xM186), (0, 243, 2, some 17, xM191), (0, 279, 2, some 17, xM216)], [], [], [])
set_option maxRecDepth 100000 in
set_option maxHeartbeats 4000000 in
theorem xk217 : x_TOK vwCl x_G x_Zs x_Tb x_Nb xM217 xT217 := by
  intro p l e s m args below meth c D U hx hb hml hts hown hK hK0 hU hnm hN
  have X : x_cx p s m args c D U xM217.2.1 xM217.2.2.1 vwCl x_Tb x_Nb xM217.1.cls := ⟨hx, hb, hml, hown, hts, hK, hK0, hU, hN, x_Tb_good, x_Nb_ok⟩
  exact ⟨x_nilm, x_nilm, x_nilm, x_nilm, x_nilm, x_nilm, x_nilm, (x_cons (x_cokV (ci := 12) X xm143 rfl rfl rfl (x_cons (x_bw68 3 rfl rfl) (x_cons (x_bw68 5 rfl rfl) (x_cons (x_at 32 (by decide +kernel) rfl) (x_cons (x_bw0 9 rfl rfl) x_nilm)))) (x_bw68 6 rfl rfl) (by decide +kernel) ⟨Nat.le_of_ble_eq_true rfl, Nat.le_of_ble_eq_true rfl⟩) (x_cons (x_cokV (ci := 12) X xm164 rfl rfl rfl (x_cons (x_bw70 11 rfl rfl) (x_cons (x_bw70 13 rfl rfl) (x_cons (x_at 38 (by decide +kernel) rfl) (x_cons (x_bw0 9 rfl rfl) x_nilm)))) (x_bw70 14 rfl rfl) (by decide +kernel) ⟨Nat.le_of_ble_eq_true rfl, Nat.le_of_ble_eq_true rfl⟩) (x_cons (x_cokV (ci := 12) X xm184 rfl rfl rfl (x_cons (x_bw77 0 rfl rfl) (x_cons (x_bw77 2 rfl rfl) (x_cons (x_at 48 (by decide +kernel) rfl) (x_cons (x_bw0 9 rfl rfl) x_nilm)))) (x_bw77 3 rfl rfl) (by decide +kernel) ⟨Nat.le_of_ble_eq_true rfl, Nat.le_of_ble_eq_true rfl⟩) (x_cons (x_cokV (ci := 12) X xm186 rfl rfl rfl (x_cons (x_bw77 8 rfl rfl) (x_cons (x_bw77 10 rfl rfl) (x_cons (x_at 50 (by decide +kernel) rfl) (x_cons (x_bw0 9 rfl rfl) x_nilm)))) (x_bw77 11 rfl rfl) (by decide +kernel) ⟨Nat.le_of_ble_eq_true rfl, Nat.le_of_ble_eq_true rfl⟩) (x_cons (x_cokV (ci := 12) X xm191 rfl rfl rfl (x_cons (x_bw78 11 rfl rfl) (x_cons (x_bw78 13 rfl rfl) (x_cons (x_at 52 (by decide +kernel) rfl) (x_cons (x_bw0 9 rfl rfl) x_nilm)))) (x_bw78 14 rfl rfl) (by decide +kernel) ⟨Nat.le_of_ble_eq_true rfl, Nat.le_of_ble_eq_true rfl⟩) (x_cons (x_cokV (ci := 12) X xm216 rfl rfl rfl (x_cons (x_bw85 1 rfl rfl) (x_cons (x_bw85 3 rfl rfl) (x_cons (x_at 59 (by decide +kernel) rfl) (x_cons (x_bw0 9 rfl rfl) x_nilm)))) (x_bw85 4 rfl rfl) (by decide +kernel) ⟨Nat.le_of_ble_eq_true rfl, Nat.le_of_ble_eq_true rfl⟩) x_nilm)))))), x_nilm, x_nilm, x_nilm⟩
set_option maxRecDepth 1000000 in
theorem xm217 : x_Met vwCl x_G x_Zs x_Tb x_Nb xM217 := x_main xT217 [] [] 2500 (by decide +kernel) (by decide +kernel) xk217 (by decide +kernel)
/-- TwinFiresModel.liesOf(II)J -/
def xM218 : xM := (⟨"TwinFiresModel", "liesOf", "(II)J"⟩, prog_14_method_73_code, 8, some .long, [xR false [17], xF, xI 0 9], [([xR false [17], xF, xI 0 9], some (xFL))], [], (2, 47, 0, 0), none)
def xT218 : xTab := ([(7, 17, 0)], [], [], [], [], [], [], [(0, 99, 3, some 17, xM145), (0, 275, 4, some 17, xM215)], [], [], [])
set_option maxRecDepth 100000 in
set_option maxHeartbeats 4000000 in
theorem xk218 : x_TOK vwCl x_G x_Zs x_Tb x_Nb xM218 xT218 := by
  intro p l e s m args below meth c D U hx hb hml hts hown hK hK0 hU hnm hN
  have X : x_cx p s m args c D U xM218.2.1 xM218.2.2.1 vwCl x_Tb x_Nb xM218.1.cls := ⟨hx, hb, hml, hown, hts, hK, hK0, hU, hN, x_Tb_good, x_Nb_ok⟩
  exact ⟨(x_cons (fl190 hts) x_nilm), x_nilm, x_nilm, x_nilm, x_nilm, x_nilm, x_nilm, (x_cons (x_cokV (ci := 12) X xm145 rfl rfl rfl (x_cons (x_bw67 15 rfl rfl) (x_cons (x_bw68 1 rfl rfl) (x_cons (x_at 31 (by decide +kernel) rfl) (x_cons (x_bw0 9 rfl rfl) x_nilm)))) (x_bw68 2 rfl rfl) (by decide +kernel) ⟨Nat.le_of_ble_eq_true rfl, Nat.le_of_ble_eq_true rfl⟩) (x_cons (x_cokV (ci := 12) X xm215 rfl rfl rfl (x_cons (x_bw85 5 rfl rfl) (x_cons (x_bw85 7 rfl rfl) (x_cons (x_at 60 (by decide +kernel) rfl) (x_cons (x_bw0 9 rfl rfl) x_nilm)))) (x_bw85 8 rfl rfl) (by decide +kernel) ⟨Nat.le_of_ble_eq_true rfl, Nat.le_of_ble_eq_true rfl⟩) x_nilm)), x_nilm, x_nilm, x_nilm⟩
set_option maxRecDepth 1000000 in
theorem xm218 : x_Met vwCl x_G x_Zs x_Tb x_Nb xM218 := x_main xT218 [(42, ([(0, xR false [17]), (1, xF), (2, xI 0 9), (3, xFL), (5, xF), (6, xF), (7, xI 0 2147483647)], [], []), (6, true), [], false, 0, []), (69, ([(0, xR false [17]), (1, xF), (2, xI 0 9), (3, xFL), (5, xF), (6, xF), (7, xI 0 2147483647)], [], []), (6, true), [], false, 0, [])] [] 2500 (by decide +kernel) (by decide +kernel) xk218 (by decide +kernel)
/-- TwinFiresModel.tell(III)I -/
def xM219 : xM := (⟨"TwinFiresModel", "tell", "(III)I"⟩, prog_14_method_75_code, 5, some .int, [xR false [17], xF, xF, xF], [([xR false [17], xF, xF, xF], some (xF))], [(46, 0), (50, 0)], (2, 46, 0, 0), none)
/-- TwinFiresModel.in(JJJ)Z -/
def xM220 : xM := (⟨"TwinFiresModel", "in", "(JJJ)Z"⟩, prog_14_method_2_code, 6, some .boolean, [xFL, xL 0 0, xL 2 2], [([xL 0 2, xL 0 0, xL 2 2], some (xI 1 1)), ([xFL, xL 0 0, xL 2 2], some (xI 0 0))], [], (0, 0, 0, 0), none)
def xT220 : xTab := ([], [], [], [], [], [], [], [], [], [], [])
set_option maxRecDepth 100000 in
set_option maxHeartbeats 4000000 in
theorem xk220 : x_TOK vwCl x_G x_Zs x_Tb x_Nb xM220 xT220 := by
  intro p l e s m args below meth c D U hx hb hml hts hown hK hK0 hU hnm hN
  have X : x_cx p s m args c D U xM220.2.1 xM220.2.2.1 vwCl x_Tb x_Nb xM220.1.cls := ⟨hx, hb, hml, hown, hts, hK, hK0, hU, hN, x_Tb_good, x_Nb_ok⟩
  exact ⟨x_nilm, x_nilm, x_nilm, x_nilm, x_nilm, x_nilm, x_nilm, x_nilm, x_nilm, x_nilm, x_nilm⟩
set_option maxRecDepth 1000000 in
theorem xm220 : x_Met vwCl x_G x_Zs x_Tb x_Nb xM220 := x_main xT220 [] [] 2500 (by decide +kernel) (by decide +kernel) xk220 (by decide +kernel)
/-- TwinFiresModel.night(II)I -/
def xM221 : xM := (⟨"TwinFiresModel", "night", "(II)I"⟩, prog_14_method_76_code, 9, some .int, [xR false [17], xF, xF], [([xR false [17], xF, xF], some (xF))], [(50, 0), (51, 0)], (4, 107, 0, 0), none)
def xT221 : xTab := ([(7, 17, 0)], [], [], [], [], [], [(286, 2)], [(1, 87, 3, none, xM220), (0, 102, 1, some 17, xM143), (0, 126, 1, some 17, xM164), (0, 144, 3, some 17, xM185), (0, 151, 2, some 17, xM171), (0, 237, 2, some 17, xM184), (0, 243, 2, some 17, xM191)], [], [], [])
set_option maxRecDepth 100000 in
set_option maxHeartbeats 4000000 in
theorem xk221 : x_TOK vwCl x_G x_Zs x_Tb x_Nb xM221 xT221 := by
  intro p l e s m args below meth c D U hx hb hml hts hown hK hK0 hU hnm hN
  have X : x_cx p s m args c D U xM221.2.1 xM221.2.2.1 vwCl x_Tb x_Nb xM221.1.cls := ⟨hx, hb, hml, hown, hts, hK, hK0, hU, hN, x_Tb_good, x_Nb_ok⟩
  exact ⟨(x_cons (fl190 hts) x_nilm), x_nilm, x_nilm, x_nilm, x_nilm, x_nilm, (x_cons ⟨2, rfl, (hts _ (x_bw86 13 rfl rfl))⟩ x_nilm), (x_cons (x_cokS X xm220 (x_cons (x_bw67 11 rfl rfl) (x_cons (x_bw67 12 rfl rfl) (x_cons (x_bw0 9 rfl rfl) x_nilm))) (x_bw67 13 rfl rfl) (by decide +kernel) ⟨Nat.le_of_ble_eq_true rfl, Nat.le_of_ble_eq_true rfl⟩) (x_cons (x_cokV (ci := 12) X xm143 rfl rfl rfl (x_cons (x_bw68 3 rfl rfl) (x_cons (x_bw68 5 rfl rfl) (x_cons (x_at 32 (by decide +kernel) rfl) (x_cons (x_bw0 9 rfl rfl) x_nilm)))) (x_bw68 6 rfl rfl) (by decide +kernel) ⟨Nat.le_of_ble_eq_true rfl, Nat.le_of_ble_eq_true rfl⟩) (x_cons (x_cokV (ci := 12) X xm164 rfl rfl rfl (x_cons (x_bw70 11 rfl rfl) (x_cons (x_bw70 13 rfl rfl) (x_cons (x_at 38 (by decide +kernel) rfl) (x_cons (x_bw0 9 rfl rfl) x_nilm)))) (x_bw70 14 rfl rfl) (by decide +kernel) ⟨Nat.le_of_ble_eq_true rfl, Nat.le_of_ble_eq_true rfl⟩) (x_cons (x_cokV (ci := 12) X xm185 rfl rfl rfl (x_cons (x_bw77 12 rfl rfl) (x_cons (x_bw77 14 rfl rfl) (x_cons (x_at 51 (by decide +kernel) rfl) (x_cons (x_bw0 9 rfl rfl) x_nilm)))) (x_bw77 15 rfl rfl) (by decide +kernel) ⟨Nat.le_of_ble_eq_true rfl, Nat.le_of_ble_eq_true rfl⟩) (x_cons (x_cokV (ci := 12) X xm171 rfl rfl rfl (x_cons (x_bw72 2 rfl rfl) (x_cons (x_bw72 4 rfl rfl) (x_cons (x_at 40 (by decide +kernel) rfl) (x_cons (x_bw0 9 rfl rfl) x_nilm)))) (x_bw72 5 rfl rfl) (by decide +kernel) ⟨Nat.le_of_ble_eq_true rfl, Nat.le_of_ble_eq_true rfl⟩) (x_cons (x_cokV (ci := 12) X xm184 rfl rfl rfl (x_cons (x_bw77 0 rfl rfl) (x_cons (x_bw77 2 rfl rfl) (x_cons (x_at 48 (by decide +kernel) rfl) (x_cons (x_bw0 9 rfl rfl) x_nilm)))) (x_bw77 3 rfl rfl) (by decide +kernel) ⟨Nat.le_of_ble_eq_true rfl, Nat.le_of_ble_eq_true rfl⟩) (x_cons (x_cokV (ci := 12) X xm191 rfl rfl rfl (x_cons (x_bw78 11 rfl rfl) (x_cons (x_bw78 13 rfl rfl) (x_cons (x_at 52 (by decide +kernel) rfl) (x_cons (x_bw0 9 rfl rfl) x_nilm)))) (x_bw78 14 rfl rfl) (by decide +kernel) ⟨Nat.le_of_ble_eq_true rfl, Nat.le_of_ble_eq_true rfl⟩) x_nilm))))))), x_nilm, x_nilm, x_nilm⟩
set_option maxRecDepth 1000000 in
theorem xm221 : x_Met vwCl x_G x_Zs x_Tb x_Nb xM221 := x_main xT221 [(36, ([(0, xR false [17]), (1, xI 0 1023), (2, xI 0 2), (3, xI 0 1023), (4, xI (-1) 11), (5, xF), (6, xI 0 12)], [], []), (6, true), [], false, 0, [])] [] 2500 (by decide +kernel) (by decide +kernel) xk221 (by decide +kernel)
/-- TwinFiresModel.part(I)J -/
def xM222 : xM := (⟨"TwinFiresModel", "part", "(I)J"⟩, prog_14_method_77_code, 2, some .long, [xR false [17], xF], [([xR false [17], xF], some (xFL))], [(50, 0)], (1, 22, 0, 0), none)
def xT222 : xTab := ([(68, 17, 7), (84, 17, 6)], [], [], [], [], [(288, -1000000)], [], [(0, 76, 3, some 17, xM142)], [], [], [])
set_option maxRecDepth 100000 in
set_option maxHeartbeats 4000000 in
theorem xk222 : x_TOK vwCl x_G x_Zs x_Tb x_Nb xM222 xT222 := by
  intro p l e s m args below meth c D U hx hb hml hts hown hK hK0 hU hnm hN
  have X : x_cx p s m args c D U xM222.2.1 xM222.2.2.1 vwCl x_Tb x_Nb xM222.1.cls := ⟨hx, hb, hml, hown, hts, hK, hK0, hU, hN, x_Tb_good, x_Nb_ok⟩
  exact ⟨(x_cons (fl203 hts) (x_cons (fl204 hts) x_nilm)), x_nilm, x_nilm, x_nilm, x_nilm, (x_cons ⟨-1000000, rfl, (hts _ (x_bw87 2 rfl rfl))⟩ x_nilm), x_nilm, (x_cons (x_cokV (ci := 12) X xm142 rfl rfl rfl (x_cons (x_bw68 7 rfl rfl) (x_cons (x_bw68 9 rfl rfl) (x_cons (x_at 33 (by decide +kernel) rfl) (x_cons (x_bw0 9 rfl rfl) x_nilm)))) (x_bw68 10 rfl rfl) (by decide +kernel) ⟨Nat.le_of_ble_eq_true rfl, Nat.le_of_ble_eq_true rfl⟩) x_nilm), x_nilm, x_nilm, x_nilm⟩
set_option maxRecDepth 1000000 in
theorem xm222 : x_Met vwCl x_G x_Zs x_Tb x_Nb xM222 := x_main xT222 [] [] 2500 (by decide +kernel) (by decide +kernel) xk222 (by decide +kernel)
/-- TwinFiresModel.status(I)I -/
def xM223 : xM := (⟨"TwinFiresModel", "status", "(I)I"⟩, prog_14_method_80_code, 2, some .int, [xR false [17], xF], [([xR false [17], xF], some (xF))], [(50, 0)], (1, 25, 0, 0), none)
def xT223 : xTab := ([(23, 17, 4)], [], [], [], [], [], [(286, 2)], [(1, 87, 3, none, xM220), (0, 76, 3, some 17, xM142)], [], [], [])
set_option maxRecDepth 100000 in
set_option maxHeartbeats 4000000 in
theorem xk223 : x_TOK vwCl x_G x_Zs x_Tb x_Nb xM223 xT223 := by
  intro p l e s m args below meth c D U hx hb hml hts hown hK hK0 hU hnm hN
  have X : x_cx p s m args c D U xM223.2.1 xM223.2.2.1 vwCl x_Tb x_Nb xM223.1.cls := ⟨hx, hb, hml, hown, hts, hK, hK0, hU, hN, x_Tb_good, x_Nb_ok⟩
  exact ⟨(x_cons (fl191 hts) x_nilm), x_nilm, x_nilm, x_nilm, x_nilm, x_nilm, (x_cons ⟨2, rfl, (hts _ (x_bw86 13 rfl rfl))⟩ x_nilm), (x_cons (x_cokS X xm220 (x_cons (x_bw67 11 rfl rfl) (x_cons (x_bw67 12 rfl rfl) (x_cons (x_bw0 9 rfl rfl) x_nilm))) (x_bw67 13 rfl rfl) (by decide +kernel) ⟨Nat.le_of_ble_eq_true rfl, Nat.le_of_ble_eq_true rfl⟩) (x_cons (x_cokV (ci := 12) X xm142 rfl rfl rfl (x_cons (x_bw68 7 rfl rfl) (x_cons (x_bw68 9 rfl rfl) (x_cons (x_at 33 (by decide +kernel) rfl) (x_cons (x_bw0 9 rfl rfl) x_nilm)))) (x_bw68 10 rfl rfl) (by decide +kernel) ⟨Nat.le_of_ble_eq_true rfl, Nat.le_of_ble_eq_true rfl⟩) x_nilm)), x_nilm, x_nilm, x_nilm⟩
set_option maxRecDepth 1000000 in
theorem xm223 : x_Met vwCl x_G x_Zs x_Tb x_Nb xM223 := x_main xT223 [] [] 2500 (by decide +kernel) (by decide +kernel) xk223 (by decide +kernel)
/-- TwinFiresModel.in(JJJ)Z -/
def xM224 : xM := (⟨"TwinFiresModel", "in", "(JJJ)Z"⟩, prog_14_method_2_code, 6, some .boolean, [xFL, xL 0 0, xL 4 4], [([xL 0 4, xL 0 0, xL 4 4], some (xI 1 1)), ([xFL, xL 0 0, xL 4 4], some (xI 0 0))], [], (0, 0, 0, 0), none)
def xT224 : xTab := ([], [], [], [], [], [], [], [], [], [], [])
set_option maxRecDepth 100000 in
set_option maxHeartbeats 4000000 in
theorem xk224 : x_TOK vwCl x_G x_Zs x_Tb x_Nb xM224 xT224 := by
  intro p l e s m args below meth c D U hx hb hml hts hown hK hK0 hU hnm hN
  have X : x_cx p s m args c D U xM224.2.1 xM224.2.2.1 vwCl x_Tb x_Nb xM224.1.cls := ⟨hx, hb, hml, hown, hts, hK, hK0, hU, hN, x_Tb_good, x_Nb_ok⟩
  exact ⟨x_nilm, x_nilm, x_nilm, x_nilm, x_nilm, x_nilm, x_nilm, x_nilm, x_nilm, x_nilm, x_nilm⟩
set_option maxRecDepth 1000000 in
theorem xm224 : x_Met vwCl x_G x_Zs x_Tb x_Nb xM224 := x_main xT224 [] [] 2500 (by decide +kernel) (by decide +kernel) xk224 (by decide +kernel)
/-- TwinFiresModel.countOf(I)I -/
def xM225 : xM := (⟨"TwinFiresModel", "countOf", "(I)I"⟩, prog_14_method_81_code, 4, some .int, [xR false [17], xI 0 4], [([xR false [17], xI 0 4], some (xF))], [], (1, 22, 0, 0), none)
def xT225 : xTab := ([(7, 17, 0), (160, 17, 10)], [], [], [], [], [], [], [(0, 99, 3, some 17, xM145)], [], [], [])
set_option maxRecDepth 100000 in
set_option maxHeartbeats 4000000 in
theorem xk225 : x_TOK vwCl x_G x_Zs x_Tb x_Nb xM225 xT225 := by
  intro p l e s m args below meth c D U hx hb hml hts hown hK hK0 hU hnm hN
  have X : x_cx p s m args c D U xM225.2.1 xM225.2.2.1 vwCl x_Tb x_Nb xM225.1.cls := ⟨hx, hb, hml, hown, hts, hK, hK0, hU, hN, x_Tb_good, x_Nb_ok⟩
  exact ⟨(x_cons (fl190 hts) (x_cons (fl193 hts) x_nilm)), x_nilm, x_nilm, x_nilm, x_nilm, x_nilm, x_nilm, (x_cons (x_cokV (ci := 12) X xm145 rfl rfl rfl (x_cons (x_bw67 15 rfl rfl) (x_cons (x_bw68 1 rfl rfl) (x_cons (x_at 31 (by decide +kernel) rfl) (x_cons (x_bw0 9 rfl rfl) x_nilm)))) (x_bw68 2 rfl rfl) (by decide +kernel) ⟨Nat.le_of_ble_eq_true rfl, Nat.le_of_ble_eq_true rfl⟩) x_nilm), x_nilm, x_nilm, x_nilm⟩
set_option maxRecDepth 1000000 in
theorem xm225 : x_Met vwCl x_G x_Zs x_Tb x_Nb xM225 := x_main xT225 [(4, ([(0, xR false [17]), (1, xI 0 4), (2, xF), (3, xI 0 10)], [], []), (3, true), [], false, 0, [])] [] 2500 (by decide +kernel) (by decide +kernel) xk225 (by decide +kernel)
/-- TwinFiresModel.count(I)I -/
def xM226 : xM := (⟨"TwinFiresModel", "count", "(I)I"⟩, prog_14_method_82_code, 2, some .int, [xR false [17], xF], [([xR false [17], xF], some (xF))], [(50, 0)], (2, 45, 0, 0), none)
def xT226 : xTab := ([], [], [], [], [], [], [(289, 4)], [(1, 87, 3, none, xM224), (0, 102, 1, some 17, xM143), (0, 291, 2, some 17, xM225)], [], [], [])
set_option maxRecDepth 100000 in
set_option maxHeartbeats 4000000 in
theorem xk226 : x_TOK vwCl x_G x_Zs x_Tb x_Nb xM226 xT226 := by
  intro p l e s m args below meth c D U hx hb hml hts hown hK hK0 hU hnm hN
  have X : x_cx p s m args c D U xM226.2.1 xM226.2.2.1 vwCl x_Tb x_Nb xM226.1.cls := ⟨hx, hb, hml, hown, hts, hK, hK0, hU, hN, x_Tb_good, x_Nb_ok⟩
  exact ⟨x_nilm, x_nilm, x_nilm, x_nilm, x_nilm, x_nilm, (x_cons ⟨4, rfl, (hts _ (x_bw88 3 rfl rfl))⟩ x_nilm), (x_cons (x_cokS X xm224 (x_cons (x_bw67 11 rfl rfl) (x_cons (x_bw67 12 rfl rfl) (x_cons (x_bw0 9 rfl rfl) x_nilm))) (x_bw67 13 rfl rfl) (by decide +kernel) ⟨Nat.le_of_ble_eq_true rfl, Nat.le_of_ble_eq_true rfl⟩) (x_cons (x_cokV (ci := 12) X xm143 rfl rfl rfl (x_cons (x_bw68 3 rfl rfl) (x_cons (x_bw68 5 rfl rfl) (x_cons (x_at 32 (by decide +kernel) rfl) (x_cons (x_bw0 9 rfl rfl) x_nilm)))) (x_bw68 6 rfl rfl) (by decide +kernel) ⟨Nat.le_of_ble_eq_true rfl, Nat.le_of_ble_eq_true rfl⟩) (x_cons (x_cokV (ci := 12) X xm225 rfl rfl rfl (x_cons (x_bw88 4 rfl rfl) (x_cons (x_bw88 6 rfl rfl) (x_cons (x_at 62 (by decide +kernel) rfl) (x_cons (x_bw0 9 rfl rfl) x_nilm)))) (x_bw88 7 rfl rfl) (by decide +kernel) ⟨Nat.le_of_ble_eq_true rfl, Nat.le_of_ble_eq_true rfl⟩) x_nilm))), x_nilm, x_nilm, x_nilm⟩
set_option maxRecDepth 1000000 in
theorem xm226 : x_Met vwCl x_G x_Zs x_Tb x_Nb xM226 := x_main xT226 [] [] 2500 (by decide +kernel) (by decide +kernel) xk226 (by decide +kernel)
/-- TwinFiresModel.mixed(JII)J -/
def xM227 : xM := (⟨"TwinFiresModel", "mixed", "(JII)J"⟩, prog_14_method_83_code, 8, some .long, [xR false [17], xFL, xI 10 10, xI 0 50], [([xR false [17], xFL, xI 10 10, xI 0 50], some (xFL))], [], (0, 0, 0, 0), none)
def xT227 : xTab := ([(7, 17, 0)], [], [], [], [], [], [(294, 31)], [], [], [], [])
set_option maxRecDepth 100000 in
set_option maxHeartbeats 4000000 in
theorem xk227 : x_TOK vwCl x_G x_Zs x_Tb x_Nb xM227 xT227 := by
  intro p l e s m args below meth c D U hx hb hml hts hown hK hK0 hU hnm hN
  have X : x_cx p s m args c D U xM227.2.1 xM227.2.2.1 vwCl x_Tb x_Nb xM227.1.cls := ⟨hx, hb, hml, hown, hts, hK, hK0, hU, hN, x_Tb_good, x_Nb_ok⟩
  exact ⟨(x_cons (fl190 hts) x_nilm), x_nilm, x_nilm, x_nilm, x_nilm, x_nilm, (x_cons ⟨31, rfl, (hts _ (x_bw88 13 rfl rfl))⟩ x_nilm), x_nilm, x_nilm, x_nilm, x_nilm⟩
set_option maxRecDepth 1000000 in
theorem xm227 : x_Met vwCl x_G x_Zs x_Tb x_Nb xM227 := x_main xT227 [(6, ([(0, xR false [17]), (1, xFL), (3, xI 10 10), (4, xI 0 50), (5, xFL), (7, xI 0 63)], [], []), (5, true), [], false, 0, [])] [] 2500 (by decide +kernel) (by decide +kernel) xk227 (by decide +kernel)
/-- TwinFiresModel.mixed(JII)J -/
def xM228 : xM := (⟨"TwinFiresModel", "mixed", "(JII)J"⟩, prog_14_method_83_code, 8, some .long, [xR false [17], xFL, xI 60 60, xI 0 56], [([xR false [17], xFL, xI 60 60, xI 0 56], some (xFL))], [], (0, 0, 0, 0), none)
def xT228 : xTab := ([(7, 17, 0)], [], [], [], [], [], [(294, 31)], [], [], [], [])
set_option maxRecDepth 100000 in
set_option maxHeartbeats 4000000 in
theorem xk228 : x_TOK vwCl x_G x_Zs x_Tb x_Nb xM228 xT228 := by
  intro p l e s m args below meth c D U hx hb hml hts hown hK hK0 hU hnm hN
  have X : x_cx p s m args c D U xM228.2.1 xM228.2.2.1 vwCl x_Tb x_Nb xM228.1.cls := ⟨hx, hb, hml, hown, hts, hK, hK0, hU, hN, x_Tb_good, x_Nb_ok⟩
  exact ⟨(x_cons (fl190 hts) x_nilm), x_nilm, x_nilm, x_nilm, x_nilm, x_nilm, (x_cons ⟨31, rfl, (hts _ (x_bw88 13 rfl rfl))⟩ x_nilm), x_nilm, x_nilm, x_nilm, x_nilm⟩
set_option maxRecDepth 1000000 in
theorem xm228 : x_Met vwCl x_G x_Zs x_Tb x_Nb xM228 := x_main xT228 [(6, ([(0, xR false [17]), (1, xFL), (3, xI 60 60), (4, xI 0 56), (5, xFL), (7, xI 0 63)], [], []), (5, true), [], false, 0, [])] [] 2500 (by decide +kernel) (by decide +kernel) xk228 (by decide +kernel)
/-- TwinFiresModel.mixed(JII)J -/
def xM229 : xM := (⟨"TwinFiresModel", "mixed", "(JII)J"⟩, prog_14_method_83_code, 8, some .long, [xR false [17], xFL, xI 4 4, xI 4 4], [([xR false [17], xFL, xI 4 4, xI 4 4], some (xFL))], [], (0, 0, 0, 0), none)
def xT229 : xTab := ([(7, 17, 0)], [], [], [], [], [], [(294, 31)], [], [], [], [])
set_option maxRecDepth 100000 in
set_option maxHeartbeats 4000000 in
theorem xk229 : x_TOK vwCl x_G x_Zs x_Tb x_Nb xM229 xT229 := by
  intro p l e s m args below meth c D U hx hb hml hts hown hK hK0 hU hnm hN
  have X : x_cx p s m args c D U xM229.2.1 xM229.2.2.1 vwCl x_Tb x_Nb xM229.1.cls := ⟨hx, hb, hml, hown, hts, hK, hK0, hU, hN, x_Tb_good, x_Nb_ok⟩
  exact ⟨(x_cons (fl190 hts) x_nilm), x_nilm, x_nilm, x_nilm, x_nilm, x_nilm, (x_cons ⟨31, rfl, (hts _ (x_bw88 13 rfl rfl))⟩ x_nilm), x_nilm, x_nilm, x_nilm, x_nilm⟩
set_option maxRecDepth 1000000 in
theorem xm229 : x_Met vwCl x_G x_Zs x_Tb x_Nb xM229 := x_main xT229 [(6, ([(0, xR false [17]), (1, xFL), (3, xI 4 4), (4, xI 4 4), (5, xFL), (7, xI 0 4)], [], []), (5, true), [], false, 0, [])] [] 2500 (by decide +kernel) (by decide +kernel) xk229 (by decide +kernel)
/-- TwinFiresModel.mixed(JII)J -/
def xM230 : xM := (⟨"TwinFiresModel", "mixed", "(JII)J"⟩, prog_14_method_83_code, 8, some .long, [xR false [17], xFL, xI 116 116, xI 12 12], [([xR false [17], xFL, xI 116 116, xI 12 12], some (xFL))], [], (0, 0, 0, 0), none)
def xT230 : xTab := ([(7, 17, 0)], [], [], [], [], [], [(294, 31)], [], [], [], [])
set_option maxRecDepth 100000 in
set_option maxHeartbeats 4000000 in
theorem xk230 : x_TOK vwCl x_G x_Zs x_Tb x_Nb xM230 xT230 := by
  intro p l e s m args below meth c D U hx hb hml hts hown hK hK0 hU hnm hN
  have X : x_cx p s m args c D U xM230.2.1 xM230.2.2.1 vwCl x_Tb x_Nb xM230.1.cls := ⟨hx, hb, hml, hown, hts, hK, hK0, hU, hN, x_Tb_good, x_Nb_ok⟩
  exact ⟨(x_cons (fl190 hts) x_nilm), x_nilm, x_nilm, x_nilm, x_nilm, x_nilm, (x_cons ⟨31, rfl, (hts _ (x_bw88 13 rfl rfl))⟩ x_nilm), x_nilm, x_nilm, x_nilm, x_nilm⟩
set_option maxRecDepth 1000000 in
theorem xm230 : x_Met vwCl x_G x_Zs x_Tb x_Nb xM230 := x_main xT230 [(6, ([(0, xR false [17]), (1, xFL), (3, xI 116 116), (4, xI 12 12), (5, xFL), (7, xI 0 12)], [], []), (5, true), [], false, 0, [])] [] 2500 (by decide +kernel) (by decide +kernel) xk230 (by decide +kernel)
/-- TwinFiresModel.mixed(JII)J -/
def xM231 : xM := (⟨"TwinFiresModel", "mixed", "(JII)J"⟩, prog_14_method_83_code, 8, some .long, [xR false [17], xFL, xI 128 128, xI 0 8], [([xR false [17], xFL, xI 128 128, xI 0 8], some (xFL))], [], (0, 0, 0, 0), none)
def xT231 : xTab := ([(7, 17, 0)], [], [], [], [], [], [(294, 31)], [], [], [], [])
set_option maxRecDepth 100000 in
set_option maxHeartbeats 4000000 in
theorem xk231 : x_TOK vwCl x_G x_Zs x_Tb x_Nb xM231 xT231 := by
  intro p l e s m args below meth c D U hx hb hml hts hown hK hK0 hU hnm hN
  have X : x_cx p s m args c D U xM231.2.1 xM231.2.2.1 vwCl x_Tb x_Nb xM231.1.cls := ⟨hx, hb, hml, hown, hts, hK, hK0, hU, hN, x_Tb_good, x_Nb_ok⟩
  exact ⟨(x_cons (fl190 hts) x_nilm), x_nilm, x_nilm, x_nilm, x_nilm, x_nilm, (x_cons ⟨31, rfl, (hts _ (x_bw88 13 rfl rfl))⟩ x_nilm), x_nilm, x_nilm, x_nilm, x_nilm⟩
set_option maxRecDepth 1000000 in
theorem xm231 : x_Met vwCl x_G x_Zs x_Tb x_Nb xM231 := x_main xT231 [(6, ([(0, xR false [17]), (1, xFL), (3, xI 128 128), (4, xI 0 8), (5, xFL), (7, xI 0 8)], [], []), (5, true), [], false, 0, [])] [] 2500 (by decide +kernel) (by decide +kernel) xk231 (by decide +kernel)
/-- TwinFiresModel.mixed(JII)J -/
def xM232 : xM := (⟨"TwinFiresModel", "mixed", "(JII)J"⟩, prog_14_method_83_code, 8, some .long, [xR false [17], xFL, xI 136 136, xI 24 24], [([xR false [17], xFL, xI 136 136, xI 24 24], some (xFL))], [], (0, 0, 0, 0), none)
def xT232 : xTab := ([(7, 17, 0)], [], [], [], [], [], [(294, 31)], [], [], [], [])
set_option maxRecDepth 100000 in
set_option maxHeartbeats 4000000 in
theorem xk232 : x_TOK vwCl x_G x_Zs x_Tb x_Nb xM232 xT232 := by
  intro p l e s m args below meth c D U hx hb hml hts hown hK hK0 hU hnm hN
  have X : x_cx p s m args c D U xM232.2.1 xM232.2.2.1 vwCl x_Tb x_Nb xM232.1.cls := ⟨hx, hb, hml, hown, hts, hK, hK0, hU, hN, x_Tb_good, x_Nb_ok⟩
  exact ⟨(x_cons (fl190 hts) x_nilm), x_nilm, x_nilm, x_nilm, x_nilm, x_nilm, (x_cons ⟨31, rfl, (hts _ (x_bw88 13 rfl rfl))⟩ x_nilm), x_nilm, x_nilm, x_nilm, x_nilm⟩
set_option maxRecDepth 1000000 in
theorem xm232 : x_Met vwCl x_G x_Zs x_Tb x_Nb xM232 := x_main xT232 [(6, ([(0, xR false [17]), (1, xFL), (3, xI 136 136), (4, xI 24 24), (5, xFL), (7, xI 0 63)], [], []), (5, true), [], false, 0, [])] [] 2500 (by decide +kernel) (by decide +kernel) xk232 (by decide +kernel)
/-- TwinFiresModel.digest()J -/
def xM233 : xM := (⟨"TwinFiresModel", "digest", "()J"⟩, prog_14_method_84_code, 4, some .long, [xR false [17]], [([xR false [17]], some (xFL))], [], (2, 45, 0, 0), none)
def xT233 : xTab := ([(7, 17, 0), (68, 17, 7), (84, 17, 6)], [], [], [], [], [], [(294, 31), (296, 619)], [(0, 291, 2, some 17, xM225), (0, 298, 4, some 17, xM229), (0, 298, 4, some 17, xM230), (0, 298, 4, some 17, xM232), (0, 298, 4, some 17, xM231), (0, 298, 4, some 17, xM227), (0, 298, 4, some 17, xM228)], [], [], [])
set_option maxRecDepth 100000 in
set_option maxHeartbeats 4000000 in
theorem xk233 : x_TOK vwCl x_G x_Zs x_Tb x_Nb xM233 xT233 := by
  intro p l e s m args below meth c D U hx hb hml hts hown hK hK0 hU hnm hN
  have X : x_cx p s m args c D U xM233.2.1 xM233.2.2.1 vwCl x_Tb x_Nb xM233.1.cls := ⟨hx, hb, hml, hown, hts, hK, hK0, hU, hN, x_Tb_good, x_Nb_ok⟩
  exact ⟨(x_cons (fl190 hts) (x_cons (fl203 hts) (x_cons (fl204 hts) x_nilm))), x_nilm, x_nilm, x_nilm, x_nilm, x_nilm, (x_cons ⟨31, rfl, (hts _ (x_bw88 13 rfl rfl))⟩ (x_cons ⟨619, rfl, (hts _ (x_bw88 12 rfl rfl))⟩ x_nilm)), (x_cons (x_cokV (ci := 12) X xm225 rfl rfl rfl (x_cons (x_bw88 4 rfl rfl) (x_cons (x_bw88 6 rfl rfl) (x_cons (x_at 62 (by decide +kernel) rfl) (x_cons (x_bw0 9 rfl rfl) x_nilm)))) (x_bw88 7 rfl rfl) (by decide +kernel) ⟨Nat.le_of_ble_eq_true rfl, Nat.le_of_ble_eq_true rfl⟩) (x_cons (x_cokV (ci := 12) X xm229 rfl rfl rfl (x_cons (x_bw88 14 rfl rfl) (x_cons (x_bw89 0 rfl rfl) (x_cons (x_at 63 (by decide +kernel) rfl) (x_cons (x_bw0 9 rfl rfl) x_nilm)))) (x_bw89 1 rfl rfl) (by decide +kernel) ⟨Nat.le_of_ble_eq_true rfl, Nat.le_of_ble_eq_true rfl⟩) (x_cons (x_cokV (ci := 12) X xm230 rfl rfl rfl (x_cons (x_bw88 14 rfl rfl) (x_cons (x_bw89 0 rfl rfl) (x_cons (x_at 63 (by decide +kernel) rfl) (x_cons (x_bw0 9 rfl rfl) x_nilm)))) (x_bw89 1 rfl rfl) (by decide +kernel) ⟨Nat.le_of_ble_eq_true rfl, Nat.le_of_ble_eq_true rfl⟩) (x_cons (x_cokV (ci := 12) X xm232 rfl rfl rfl (x_cons (x_bw88 14 rfl rfl) (x_cons (x_bw89 0 rfl rfl) (x_cons (x_at 63 (by decide +kernel) rfl) (x_cons (x_bw0 9 rfl rfl) x_nilm)))) (x_bw89 1 rfl rfl) (by decide +kernel) ⟨Nat.le_of_ble_eq_true rfl, Nat.le_of_ble_eq_true rfl⟩) (x_cons (x_cokV (ci := 12) X xm231 rfl rfl rfl (x_cons (x_bw88 14 rfl rfl) (x_cons (x_bw89 0 rfl rfl) (x_cons (x_at 63 (by decide +kernel) rfl) (x_cons (x_bw0 9 rfl rfl) x_nilm)))) (x_bw89 1 rfl rfl) (by decide +kernel) ⟨Nat.le_of_ble_eq_true rfl, Nat.le_of_ble_eq_true rfl⟩) (x_cons (x_cokV (ci := 12) X xm227 rfl rfl rfl (x_cons (x_bw88 14 rfl rfl) (x_cons (x_bw89 0 rfl rfl) (x_cons (x_at 63 (by decide +kernel) rfl) (x_cons (x_bw0 9 rfl rfl) x_nilm)))) (x_bw89 1 rfl rfl) (by decide +kernel) ⟨Nat.le_of_ble_eq_true rfl, Nat.le_of_ble_eq_true rfl⟩) (x_cons (x_cokV (ci := 12) X xm228 rfl rfl rfl (x_cons (x_bw88 14 rfl rfl) (x_cons (x_bw89 0 rfl rfl) (x_cons (x_at 63 (by decide +kernel) rfl) (x_cons (x_bw0 9 rfl rfl) x_nilm)))) (x_bw89 1 rfl rfl) (by decide +kernel) ⟨Nat.le_of_ble_eq_true rfl, Nat.le_of_ble_eq_true rfl⟩) x_nilm))))))), x_nilm, x_nilm, x_nilm⟩
set_option maxRecDepth 1000000 in
theorem xm233 : x_Met vwCl x_G x_Zs x_Tb x_Nb xM233 := x_main xT233 [(6, ([(0, xR false [17]), (1, xFL), (3, xI 0 5)], [], []), (2, true), [], false, 0, [])] [] 2500 (by decide +kernel) (by decide +kernel) xk233 (by decide +kernel)
