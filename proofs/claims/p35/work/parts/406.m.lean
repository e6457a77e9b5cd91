/-- TwinFiresModel.tellsItem(I)Z -/
def xM181 : xM := (⟨"TwinFiresModel", "tellsItem", "(I)Z"⟩, prog_14_method_41_code, 6, some .boolean, [xR false [17], xI 0 239], [([xR false [17], xI 0 239], some (xI 1 1)), ([xR false [17], xI 0 239], some (xI 0 0))], [(46, 0), (50, 0)], (3, 69, 0, 0), none)
/-- TwinFiresModel.all()I -/
def xM182 : xM := (⟨"TwinFiresModel", "all", "()I"⟩, prog_14_method_15_code, 1, some .int, [xR false [17]], [([xR false [17]], some (xI 0 1023))], [], (0, 0, 0, 0), none)
def xT182 : xTab := ([(7, 17, 0)], [], [], [], [], [], [], [], [], [], [])
set_option maxRecDepth 100000 in
set_option maxHeartbeats 4000000 in
theorem xk182 : x_TOK vwCl x_G x_Zs x_Tb x_Nb xM182 xT182 := by
  intro p l e s m args below meth c D U hx hb hml hts hown hK hK0 hU hnm hN
  have X : x_cx p s m args c D U xM182.2.1 xM182.2.2.1 vwCl x_Tb x_Nb xM182.1.cls := ⟨hx, hb, hml, hown, hts, hK, hK0, hU, hN, x_Tb_good, x_Nb_ok⟩
  exact ⟨(x_cons (fl190 hts) x_nilm), x_nilm, x_nilm, x_nilm, x_nilm, x_nilm, x_nilm, x_nilm, x_nilm, x_nilm, x_nilm⟩
set_option maxRecDepth 1000000 in
theorem xm182 : x_Met vwCl x_G x_Zs x_Tb x_Nb xM182 := x_main xT182 [] [] 2500 (by decide +kernel) (by decide +kernel) xk182 (by decide +kernel)
/-- TwinFiresModel.in(JJJ)Z -/
def xM183 : xM := (⟨"TwinFiresModel", "in", "(JJJ)Z"⟩, prog_14_method_2_code, 6, some .boolean, [xFL, xL 0 0, xL 0 1023], [([xL 0 1023, xL 0 0, xL 0 1023], some (xI 1 1)), ([xFL, xL 0 0, xL 0 1023], some (xI 0 0))], [], (0, 0, 0, 0), none)
def xT183 : xTab := ([], [], [], [], [], [], [], [], [], [], [])
set_option maxRecDepth 100000 in
set_option maxHeartbeats 4000000 in
theorem xk183 : x_TOK vwCl x_G x_Zs x_Tb x_Nb xM183 xT183 := by
  intro p l e s m args below meth c D U hx hb hml hts hown hK hK0 hU hnm hN
  have X : x_cx p s m args c D U xM183.2.1 xM183.2.2.1 vwCl x_Tb x_Nb xM183.1.cls := ⟨hx, hb, hml, hown, hts, hK, hK0, hU, hN, x_Tb_good, x_Nb_ok⟩
  exact ⟨x_nilm, x_nilm, x_nilm, x_nilm, x_nilm, x_nilm, x_nilm, x_nilm, x_nilm, x_nilm, x_nilm⟩
set_option maxRecDepth 1000000 in
theorem xm183 : x_Met vwCl x_G x_Zs x_Tb x_Nb xM183 := x_main xT183 [] [] 2500 (by decide +kernel) (by decide +kernel) xk183 (by decide +kernel)
/-- TwinFiresModel.isSet(I)Z -/
def xM184 : xM := (⟨"TwinFiresModel", "isSet", "(I)Z"⟩, prog_14_method_16_code, 2, some .boolean, [xR false [17], xF], [([xR false [17], xF], some (xI 0 0)), ([xR false [17], xI 0 1023], some (xI 1 1))], [], (1, 25, 0, 0), none)
def xT184 : xTab := ([], [], [], [], [], [], [], [(1, 87, 3, none, xM183), (0, 91, 1, some 17, xM182)], [], [], [])
set_option maxRecDepth 100000 in
set_option maxHeartbeats 4000000 in
theorem xk184 : x_TOK vwCl x_G x_Zs x_Tb x_Nb xM184 xT184 := by
  intro p l e s m args below meth c D U hx hb hml hts hown hK hK0 hU hnm hN
  have X : x_cx p s m args c D U xM184.2.1 xM184.2.2.1 vwCl x_Tb x_Nb xM184.1.cls := ⟨hx, hb, hml, hown, hts, hK, hK0, hU, hN, x_Tb_good, x_Nb_ok⟩
  exact ⟨x_nilm, x_nilm, x_nilm, x_nilm, x_nilm, x_nilm, x_nilm, (x_cons (x_cokS X xm183 (x_cons (x_bw67 11 rfl rfl) (x_cons (x_bw67 12 rfl rfl) (x_cons (x_bw0 9 rfl rfl) x_nilm))) (x_bw67 13 rfl rfl) (by decide +kernel) ⟨Nat.le_of_ble_eq_true rfl, Nat.le_of_ble_eq_true rfl⟩) (x_cons (x_cokV (ci := 12) X xm182 rfl rfl rfl (x_cons (x_bw77 4 rfl rfl) (x_cons (x_bw77 6 rfl rfl) (x_cons (x_at 49 (by decide +kernel) rfl) (x_cons (x_bw0 9 rfl rfl) x_nilm)))) (x_bw77 7 rfl rfl) (by decide +kernel) ⟨Nat.le_of_ble_eq_true rfl, Nat.le_of_ble_eq_true rfl⟩) x_nilm)), x_nilm, x_nilm, x_nilm⟩
set_option maxRecDepth 1000000 in
theorem xm184 : x_Met vwCl x_G x_Zs x_Tb x_Nb xM184 := x_main xT184 [] [] 2500 (by decide +kernel) (by decide +kernel) xk184 (by decide +kernel)
/-- TwinFiresModel.looks(II)V -/
def xM185 : xM := (⟨"TwinFiresModel", "looks", "(II)V"⟩, prog_14_method_29_code, 5, none, [xR false [17], xF, xF], [([xR false [17], xF, xF], none)], [(51, 0)], (3, 83, 0, 0), none)
def xT185 : xTab := ([(7, 17, 0), (26, 17, 8)], [], [], [], [], [], [], [(0, 140, 5, some 17, xM173)], [], [], [])
set_option maxRecDepth 100000 in
set_option maxHeartbeats 4000000 in
theorem xk185 : x_TOK vwCl x_G x_Zs x_Tb x_Nb xM185 xT185 := by
  intro p l e s m args below meth c D U hx hb hml hts hown hK hK0 hU hnm hN
  have X : x_cx p s m args c D U xM185.2.1 xM185.2.2.1 vwCl x_Tb x_Nb xM185.1.cls := ⟨hx, hb, hml, hown, hts, hK, hK0, hU, hN, x_Tb_good, x_Nb_ok⟩
  exact ⟨(x_cons (fl190 hts) (x_cons (fl199 hts) x_nilm)), x_nilm, x_nilm, x_nilm, x_nilm, x_nilm, x_nilm, (x_cons (x_cokV (ci := 12) X xm173 rfl rfl rfl (x_cons (x_bw72 6 rfl rfl) (x_cons (x_bw72 8 rfl rfl) (x_cons (x_at 41 (by decide +kernel) rfl) (x_cons (x_bw0 9 rfl rfl) x_nilm)))) (x_bw72 9 rfl rfl) (by decide +kernel) ⟨Nat.le_of_ble_eq_true rfl, Nat.le_of_ble_eq_true rfl⟩) x_nilm), x_nilm, x_nilm, x_nilm⟩
set_option maxRecDepth 1000000 in
theorem xm185 : x_Met vwCl x_G x_Zs x_Tb x_Nb xM185 := x_main xT185 [(2, ([(0, xR false [17]), (1, xF), (2, xF), (3, xI 0 10)], [], []), (3, true), [], false, 0, []), (27, ([(0, xR false [17]), (1, xF), (2, xF), (3, xI 0 10)], [], [(0, 12, 0, xR false [46])]), (3, true), [], false, 0, []), (40, ([(0, xR false [17]), (1, xF), (2, xF), (3, xI 0 9), (4, xI 0 9)], [], [(0, 12, 0, xR false [46])]), (4, true), [3], false, 1, [])] [] 2500 (by decide +kernel) (by decide +kernel) xk185 (by decide +kernel)
/-- TwinFiresModel.looksNow()V -/
def xM186 : xM := (⟨"TwinFiresModel", "looksNow", "()V"⟩, prog_14_method_30_code, 1, none, [xR false [17]], [([xR false [17]], none)], [(51, 0)], (4, 107, 0, 0), none)
def xT186 : xTab := ([(7, 17, 0)], [], [], [], [], [], [], [(0, 144, 3, some 17, xM185)], [], [], [])
set_option maxRecDepth 100000 in
set_option maxHeartbeats 4000000 in
theorem xk186 : x_TOK vwCl x_G x_Zs x_Tb x_Nb xM186 xT186 := by
  intro p l e s m args below meth c D U hx hb hml hts hown hK hK0 hU hnm hN
  have X : x_cx p s m args c D U xM186.2.1 xM186.2.2.1 vwCl x_Tb x_Nb xM186.1.cls := ⟨hx, hb, hml, hown, hts, hK, hK0, hU, hN, x_Tb_good, x_Nb_ok⟩
  exact ⟨(x_cons (fl190 hts) x_nilm), x_nilm, x_nilm, x_nilm, x_nilm, x_nilm, x_nilm, (x_cons (x_cokV (ci := 12) X xm185 rfl rfl rfl (x_cons (x_bw77 12 rfl rfl) (x_cons (x_bw77 14 rfl rfl) (x_cons (x_at 51 (by decide +kernel) rfl) (x_cons (x_bw0 9 rfl rfl) x_nilm)))) (x_bw77 15 rfl rfl) (by decide +kernel) ⟨Nat.le_of_ble_eq_true rfl, Nat.le_of_ble_eq_true rfl⟩) x_nilm), x_nilm, x_nilm, x_nilm⟩
set_option maxRecDepth 1000000 in
theorem xm186 : x_Met vwCl x_G x_Zs x_Tb x_Nb xM186 := x_main xT186 [] [] 2500 (by decide +kernel) (by decide +kernel) xk186 (by decide +kernel)
/-- TwinFiresModel.sees(II)I -/
def xM187 : xM := (⟨"TwinFiresModel", "sees", "(II)I"⟩, prog_14_method_43_code, 3, some .int, [xR false [17], xF, xF], [([xR false [17], xF, xF], some (xF))], [(50, 0), (51, 0)], (5, 127, 0, 0), none)
def xT187 : xTab := ([(26, 17, 8)], [], [], [], [], [], [], [(0, 102, 1, some 17, xM143), (0, 151, 2, some 17, xM171), (0, 237, 2, some 17, xM184), (0, 240, 1, some 17, xM186)], [], [], [])
set_option maxRecDepth 100000 in
set_option maxHeartbeats 4000000 in
theorem xk187 : x_TOK vwCl x_G x_Zs x_Tb x_Nb xM187 xT187 := by
  intro p l e s m args below meth c D U hx hb hml hts hown hK hK0 hU hnm hN
  have X : x_cx p s m args c D U xM187.2.1 xM187.2.2.1 vwCl x_Tb x_Nb xM187.1.cls := ⟨hx, hb, hml, hown, hts, hK, hK0, hU, hN, x_Tb_good, x_Nb_ok⟩
  exact ⟨(x_cons (fl199 hts) x_nilm), x_nilm, x_nilm, x_nilm, x_nilm, x_nilm, x_nilm, (x_cons (x_cokV (ci := 12) X xm143 rfl rfl rfl (x_cons (x_bw68 3 rfl rfl) (x_cons (x_bw68 5 rfl rfl) (x_cons (x_at 32 (by decide +kernel) rfl) (x_cons (x_bw0 9 rfl rfl) x_nilm)))) (x_bw68 6 rfl rfl) (by decide +kernel) ⟨Nat.le_of_ble_eq_true rfl, Nat.le_of_ble_eq_true rfl⟩) (x_cons (x_cokV (ci := 12) X xm171 rfl rfl rfl (x_cons (x_bw72 2 rfl rfl) (x_cons (x_bw72 4 rfl rfl) (x_cons (x_at 40 (by decide +kernel) rfl) (x_cons (x_bw0 9 rfl rfl) x_nilm)))) (x_bw72 5 rfl rfl) (by decide +kernel) ⟨Nat.le_of_ble_eq_true rfl, Nat.le_of_ble_eq_true rfl⟩) (x_cons (x_cokV (ci := 12) X xm184 rfl rfl rfl (x_cons (x_bw77 0 rfl rfl) (x_cons (x_bw77 2 rfl rfl) (x_cons (x_at 48 (by decide +kernel) rfl) (x_cons (x_bw0 9 rfl rfl) x_nilm)))) (x_bw77 3 rfl rfl) (by decide +kernel) ⟨Nat.le_of_ble_eq_true rfl, Nat.le_of_ble_eq_true rfl⟩) (x_cons (x_cokV (ci := 12) X xm186 rfl rfl rfl (x_cons (x_bw77 8 rfl rfl) (x_cons (x_bw77 10 rfl rfl) (x_cons (x_at 50 (by decide +kernel) rfl) (x_cons (x_bw0 9 rfl rfl) x_nilm)))) (x_bw77 11 rfl rfl) (by decide +kernel) ⟨Nat.le_of_ble_eq_true rfl, Nat.le_of_ble_eq_true rfl⟩) x_nilm)))), x_nilm, x_nilm, x_nilm⟩
set_option maxRecDepth 1000000 in
theorem xm187 : x_Met vwCl x_G x_Zs x_Tb x_Nb xM187 := x_main xT187 [] [] 2500 (by decide +kernel) (by decide +kernel) xk187 (by decide +kernel)
/-- TwinFiresModel.in(JJJ)Z -/
def xM188 : xM := (⟨"TwinFiresModel", "in", "(JJJ)Z"⟩, prog_14_method_2_code, 6, some .boolean, [xFL, xL 0 0, xL 1 1], [([xL 0 1, xL 0 0, xL 1 1], some (xI 1 1)), ([xFL, xL 0 0, xL 1 1], some (xI 0 0))], [], (0, 0, 0, 0), none)
def xT188 : xTab := ([], [], [], [], [], [], [], [], [], [], [])
set_option maxRecDepth 100000 in
set_option maxHeartbeats 4000000 in
theorem xk188 : x_TOK vwCl x_G x_Zs x_Tb x_Nb xM188 xT188 := by
  intro p l e s m args below meth c D U hx hb hml hts hown hK hK0 hU hnm hN
  have X : x_cx p s m args c D U xM188.2.1 xM188.2.2.1 vwCl x_Tb x_Nb xM188.1.cls := ⟨hx, hb, hml, hown, hts, hK, hK0, hU, hN, x_Tb_good, x_Nb_ok⟩
  exact ⟨x_nilm, x_nilm, x_nilm, x_nilm, x_nilm, x_nilm, x_nilm, x_nilm, x_nilm, x_nilm, x_nilm⟩
set_option maxRecDepth 1000000 in
theorem xm188 : x_Met vwCl x_G x_Zs x_Tb x_Nb xM188 := x_main xT188 [] [] 2500 (by decide +kernel) (by decide +kernel) xk188 (by decide +kernel)
/-- TwinFiresModel.bits(I)I -/
def xM189 : xM := (⟨"TwinFiresModel", "bits", "(I)I"⟩, prog_14_method_12_code, 3, some .int, [xF], [([xF], some (xF))], [], (0, 0, 0, 0), none)
def xT189 : xTab := ([], [], [], [], [], [], [], [], [], [], [])
set_option maxRecDepth 100000 in
set_option maxHeartbeats 4000000 in
theorem xk189 : x_TOK vwCl x_G x_Zs x_Tb x_Nb xM189 xT189 := by
  intro p l e s m args below meth c D U hx hb hml hts hown hK hK0 hU hnm hN
  have X : x_cx p s m args c D U xM189.2.1 xM189.2.2.1 vwCl x_Tb x_Nb xM189.1.cls := ⟨hx, hb, hml, hown, hts, hK, hK0, hU, hN, x_Tb_good, x_Nb_ok⟩
  exact ⟨x_nilm, x_nilm, x_nilm, x_nilm, x_nilm, x_nilm, x_nilm, x_nilm, x_nilm, x_nilm, x_nilm⟩
set_option maxRecDepth 1000000 in
theorem xm189 : x_Met vwCl x_G x_Zs x_Tb x_Nb xM189 := x_main xT189 [(4, ([(0, xF), (1, xF), (2, xI 0 10)], [], []), (2, true), [], false, 0, [])] [] 2500 (by decide +kernel) (by decide +kernel) xk189 (by decide +kernel)
/-- TwinFiresModel.judge(II)I -/
def xM190 : xM := (⟨"TwinFiresModel", "judge", "(II)I"⟩, prog_14_method_44_code, 5, some .int, [xR false [17], xF, xF], [([xR false [17], xF, xF], some (xF))], [(50, 0), (51, 0)], (5, 127, 0, 0), none)
def xT190 : xTab := ([(7, 17, 0), (26, 17, 8)], [], [], [], [], [], [], [(1, 87, 3, none, xM188), (1, 148, 1, none, xM189), (0, 102, 1, some 17, xM143), (0, 237, 2, some 17, xM184), (0, 240, 1, some 17, xM186)], [], [], [])
set_option maxRecDepth 100000 in
set_option maxHeartbeats 4000000 in
theorem xk190 : x_TOK vwCl x_G x_Zs x_Tb x_Nb xM190 xT190 := by
  intro p l e s m args below meth c D U hx hb hml hts hown hK hK0 hU hnm hN
  have X : x_cx p s m args c D U xM190.2.1 xM190.2.2.1 vwCl x_Tb x_Nb xM190.1.cls := ⟨hx, hb, hml, hown, hts, hK, hK0, hU, hN, x_Tb_good, x_Nb_ok⟩
  exact ⟨(x_cons (fl190 hts) (x_cons (fl199 hts) x_nilm)), x_nilm, x_nilm, x_nilm, x_nilm, x_nilm, x_nilm, (x_cons (x_cokS X xm188 (x_cons (x_bw67 11 rfl rfl) (x_cons (x_bw67 12 rfl rfl) (x_cons (x_bw0 9 rfl rfl) x_nilm))) (x_bw67 13 rfl rfl) (by decide +kernel) ⟨Nat.le_of_ble_eq_true rfl, Nat.le_of_ble_eq_true rfl⟩) (x_cons (x_cokS X xm189 (x_cons (x_bw78 4 rfl rfl) (x_cons (x_bw78 5 rfl rfl) (x_cons (x_bw0 9 rfl rfl) x_nilm))) (x_bw78 6 rfl rfl) (by decide +kernel) ⟨Nat.le_of_ble_eq_true rfl, Nat.le_of_ble_eq_true rfl⟩) (x_cons (x_cokV (ci := 12) X xm143 rfl rfl rfl (x_cons (x_bw68 3 rfl rfl) (x_cons (x_bw68 5 rfl rfl) (x_cons (x_at 32 (by decide +kernel) rfl) (x_cons (x_bw0 9 rfl rfl) x_nilm)))) (x_bw68 6 rfl rfl) (by decide +kernel) ⟨Nat.le_of_ble_eq_true rfl, Nat.le_of_ble_eq_true rfl⟩) (x_cons (x_cokV (ci := 12) X xm184 rfl rfl rfl (x_cons (x_bw77 0 rfl rfl) (x_cons (x_bw77 2 rfl rfl) (x_cons (x_at 48 (by decide +kernel) rfl) (x_cons (x_bw0 9 rfl rfl) x_nilm)))) (x_bw77 3 rfl rfl) (by decide +kernel) ⟨Nat.le_of_ble_eq_true rfl, Nat.le_of_ble_eq_true rfl⟩) (x_cons (x_cokV (ci := 12) X xm186 rfl rfl rfl (x_cons (x_bw77 8 rfl rfl) (x_cons (x_bw77 10 rfl rfl) (x_cons (x_at 50 (by decide +kernel) rfl) (x_cons (x_bw0 9 rfl rfl) x_nilm)))) (x_bw77 11 rfl rfl) (by decide +kernel) ⟨Nat.le_of_ble_eq_true rfl, Nat.le_of_ble_eq_true rfl⟩) x_nilm))))), x_nilm, x_nilm, x_nilm⟩
set_option maxRecDepth 1000000 in
theorem xm190 : x_Met vwCl x_G x_Zs x_Tb x_Nb xM190 := x_main xT190 [(29, ([(0, xR false [17]), (1, xI 0 1023), (2, xI 0 1), (3, xI 0 10)], [], []), (3, true), [], false, 0, [])] [] 2500 (by decide +kernel) (by decide +kernel) xk190 (by decide +kernel)
/-- TwinFiresModel.isLawful(I)Z -/
def xM191 : xM := (⟨"TwinFiresModel", "isLawful", "(I)Z"⟩, prog_14_method_31_code, 4, some .boolean, [xR false [17], xF], [([xR false [17], xF], some (xI 0 0)), ([xR false [17], xF], some (xI 0 1))], [], (1, 22, 0, 0), none)
def xT191 : xTab := ([(7, 17, 0), (26, 17, 8)], [], [], [], [], [], [], [(1, 148, 1, none, xM189)], [], [], [])
set_option maxRecDepth 100000 in
set_option maxHeartbeats 4000000 in
theorem xk191 : x_TOK vwCl x_G x_Zs x_Tb x_Nb xM191 xT191 := by
  intro p l e s m args below meth c D U hx hb hml hts hown hK hK0 hU hnm hN
  have X : x_cx p s m args c D U xM191.2.1 xM191.2.2.1 vwCl x_Tb x_Nb xM191.1.cls := ⟨hx, hb, hml, hown, hts, hK, hK0, hU, hN, x_Tb_good, x_Nb_ok⟩
  exact ⟨(x_cons (fl190 hts) (x_cons (fl199 hts) x_nilm)), x_nilm, x_nilm, x_nilm, x_nilm, x_nilm, x_nilm, (x_cons (x_cokS X xm189 (x_cons (x_bw78 4 rfl rfl) (x_cons (x_bw78 5 rfl rfl) (x_cons (x_bw0 9 rfl rfl) x_nilm))) (x_bw78 6 rfl rfl) (by decide +kernel) ⟨Nat.le_of_ble_eq_true rfl, Nat.le_of_ble_eq_true rfl⟩) x_nilm), x_nilm, x_nilm, x_nilm⟩
set_option maxRecDepth 1000000 in
theorem xm191 : x_Met vwCl x_G x_Zs x_Tb x_Nb xM191 := x_main xT191 [(4, ([(0, xR false [17]), (1, xF), (2, xI 0 1), (3, xI 0 10)], [], []), (3, true), [], false, 0, [])] [] 2500 (by decide +kernel) (by decide +kernel) xk191 (by decide +kernel)
/-- TwinFiresModel.most(II)I -/
def xM192 : xM := (⟨"TwinFiresModel", "most", "(II)I"⟩, prog_14_method_45_code, 6, some .int, [xR false [17], xF, xF], [([xR false [17], xF, xF], some (xF))], [(50, 0), (51, 0)], (5, 127, 0, 0), none)
def xT192 : xTab := ([], [], [], [], [], [], [], [(1, 87, 3, none, xM188), (1, 148, 1, none, xM189), (0, 91, 1, some 17, xM182), (0, 102, 1, some 17, xM143), (0, 126, 1, some 17, xM164), (0, 151, 2, some 17, xM171), (0, 240, 1, some 17, xM186), (0, 243, 2, some 17, xM191)], [], [], [])
set_option maxRecDepth 100000 in
set_option maxHeartbeats 4000000 in
theorem xk192 : x_TOK vwCl x_G x_Zs x_Tb x_Nb xM192 xT192 := by
  intro p l e s m args below meth c D U hx hb hml hts hown hK hK0 hU hnm hN
  have X : x_cx p s m args c D U xM192.2.1 xM192.2.2.1 vwCl x_Tb x_Nb xM192.1.cls := ⟨hx, hb, hml, hown, hts, hK, hK0, hU, hN, x_Tb_good, x_Nb_ok⟩
  exact ⟨x_nilm, x_nilm, x_nilm, x_nilm, x_nilm, x_nilm, x_nilm, (x_cons (x_cokS X xm188 (x_cons (x_bw67 11 rfl rfl) (x_cons (x_bw67 12 rfl rfl) (x_cons (x_bw0 9 rfl rfl) x_nilm))) (x_bw67 13 rfl rfl) (by decide +kernel) ⟨Nat.le_of_ble_eq_true rfl, Nat.le_of_ble_eq_true rfl⟩) (x_cons (x_cokS X xm189 (x_cons (x_bw78 4 rfl rfl) (x_cons (x_bw78 5 rfl rfl) (x_cons (x_bw0 9 rfl rfl) x_nilm))) (x_bw78 6 rfl rfl) (by decide +kernel) ⟨Nat.le_of_ble_eq_true rfl, Nat.le_of_ble_eq_true rfl⟩) (x_cons (x_cokV (ci := 12) X xm182 rfl rfl rfl (x_cons (x_bw77 4 rfl rfl) (x_cons (x_bw77 6 rfl rfl) (x_cons (x_at 49 (by decide +kernel) rfl) (x_cons (x_bw0 9 rfl rfl) x_nilm)))) (x_bw77 7 rfl rfl) (by decide +kernel) ⟨Nat.le_of_ble_eq_true rfl, Nat.le_of_ble_eq_true rfl⟩) (x_cons (x_cokV (ci := 12) X xm143 rfl rfl rfl (x_cons (x_bw68 3 rfl rfl) (x_cons (x_bw68 5 rfl rfl) (x_cons (x_at 32 (by decide +kernel) rfl) (x_cons (x_bw0 9 rfl rfl) x_nilm)))) (x_bw68 6 rfl rfl) (by decide +kernel) ⟨Nat.le_of_ble_eq_true rfl, Nat.le_of_ble_eq_true rfl⟩) (x_cons (x_cokV (ci := 12) X xm164 rfl rfl rfl (x_cons (x_bw70 11 rfl rfl) (x_cons (x_bw70 13 rfl rfl) (x_cons (x_at 38 (by decide +kernel) rfl) (x_cons (x_bw0 9 rfl rfl) x_nilm)))) (x_bw70 14 rfl rfl) (by decide +kernel) ⟨Nat.le_of_ble_eq_true rfl, Nat.le_of_ble_eq_true rfl⟩) (x_cons (x_cokV (ci := 12) X xm171 rfl rfl rfl (x_cons (x_bw72 2 rfl rfl) (x_cons (x_bw72 4 rfl rfl) (x_cons (x_at 40 (by decide +kernel) rfl) (x_cons (x_bw0 9 rfl rfl) x_nilm)))) (x_bw72 5 rfl rfl) (by decide +kernel) ⟨Nat.le_of_ble_eq_true rfl, Nat.le_of_ble_eq_true rfl⟩) (x_cons (x_cokV (ci := 12) X xm186 rfl rfl rfl (x_cons (x_bw77 8 rfl rfl) (x_cons (x_bw77 10 rfl rfl) (x_cons (x_at 50 (by decide +kernel) rfl) (x_cons (x_bw0 9 rfl rfl) x_nilm)))) (x_bw77 11 rfl rfl) (by decide +kernel) ⟨Nat.le_of_ble_eq_true rfl, Nat.le_of_ble_eq_true rfl⟩) (x_cons (x_cokV (ci := 12) X xm191 rfl rfl rfl (x_cons (x_bw78 11 rfl rfl) (x_cons (x_bw78 13 rfl rfl) (x_cons (x_at 52 (by decide +kernel) rfl) (x_cons (x_bw0 9 rfl rfl) x_nilm)))) (x_bw78 14 rfl rfl) (by decide +kernel) ⟨Nat.le_of_ble_eq_true rfl, Nat.le_of_ble_eq_true rfl⟩) x_nilm)))))))), x_nilm, x_nilm, x_nilm⟩
set_option maxRecDepth 1000000 in
theorem xm192 : x_Met vwCl x_G x_Zs x_Tb x_Nb xM192 := x_main xT192 [(37, ([(0, xR false [17]), (1, xI (-1) 9), (2, xI 0 1), (3, xI (-1) 1023), (4, xI 0 1024)], [], []), (4, true), [], false, 0, [])] [] 2500 (by decide +kernel) (by decide +kernel) xk192 (by decide +kernel)
/-- TwinFiresModel.in(JJJ)Z -/
def xM193 : xM := (⟨"TwinFiresModel", "in", "(JJJ)Z"⟩, prog_14_method_2_code, 6, some .boolean, [xFL, xL (-1) (-1), xL 10 10], [([xL (-1) 10, xL (-1) (-1), xL 10 10], some (xI 1 1)), ([xFL, xL (-1) (-1), xL 10 10], some (xI 0 0))], [], (0, 0, 0, 0), none)
def xT193 : xTab := ([], [], [], [], [], [], [], [], [], [], [])
set_option maxRecDepth 100000 in
set_option maxHeartbeats 4000000 in
theorem xk193 : x_TOK vwCl x_G x_Zs x_Tb x_Nb xM193 xT193 := by
  intro p l e s m args below meth c D U hx hb hml hts hown hK hK0 hU hnm hN
  have X : x_cx p s m args c D U xM193.2.1 xM193.2.2.1 vwCl x_Tb x_Nb xM193.1.cls := ⟨hx, hb, hml, hown, hts, hK, hK0, hU, hN, x_Tb_good, x_Nb_ok⟩
  exact ⟨x_nilm, x_nilm, x_nilm, x_nilm, x_nilm, x_nilm, x_nilm, x_nilm, x_nilm, x_nilm, x_nilm⟩
set_option maxRecDepth 1000000 in
theorem xm193 : x_Met vwCl x_G x_Zs x_Tb x_Nb xM193 := x_main xT193 [] [] 2500 (by decide +kernel) (by decide +kernel) xk193 (by decide +kernel)
/-- TwinFiresModel.lawful(I)I -/
def xM194 : xM := (⟨"TwinFiresModel", "lawful", "(I)I"⟩, prog_14_method_46_code, 4, some .int, [xR false [17], xF], [([xR false [17], xF], some (xF))], [(50, 0), (51, 0)], (5, 127, 0, 0), none)
def xT194 : xTab := ([], [], [], [], [], [], [(114, 10), (246, -1)], [(1, 87, 3, none, xM193), (1, 148, 1, none, xM189), (0, 91, 1, some 17, xM182), (0, 102, 1, some 17, xM143), (0, 240, 1, some 17, xM186), (0, 243, 2, some 17, xM191)], [], [], [])
set_option maxRecDepth 100000 in
set_option maxHeartbeats 4000000 in
theorem xk194 : x_TOK vwCl x_G x_Zs x_Tb x_Nb xM194 xT194 := by
  intro p l e s m args below meth c D U hx hb hml hts hown hK hK0 hU hnm hN
  have X : x_cx p s m args c D U xM194.2.1 xM194.2.2.1 vwCl x_Tb x_Nb xM194.1.cls := ⟨hx, hb, hml, hown, hts, hK, hK0, hU, hN, x_Tb_good, x_Nb_ok⟩
  exact ⟨x_nilm, x_nilm, x_nilm, x_nilm, x_nilm, x_nilm, (x_cons ⟨10, rfl, (hts _ (x_bw69 10 rfl rfl))⟩ (x_cons ⟨-1, rfl, (hts _ (x_bw79 3 rfl rfl))⟩ x_nilm)), (x_cons (x_cokS X xm193 (x_cons (x_bw67 11 rfl rfl) (x_cons (x_bw67 12 rfl rfl) (x_cons (x_bw0 9 rfl rfl) x_nilm))) (x_bw67 13 rfl rfl) (by decide +kernel) ⟨Nat.le_of_ble_eq_true rfl, Nat.le_of_ble_eq_true rfl⟩) (x_cons (x_cokS X xm189 (x_cons (x_bw78 4 rfl rfl) (x_cons (x_bw78 5 rfl rfl) (x_cons (x_bw0 9 rfl rfl) x_nilm))) (x_bw78 6 rfl rfl) (by decide +kernel) ⟨Nat.le_of_ble_eq_true rfl, Nat.le_of_ble_eq_true rfl⟩) (x_cons (x_cokV (ci := 12) X xm182 rfl rfl rfl (x_cons (x_bw77 4 rfl rfl) (x_cons (x_bw77 6 rfl rfl) (x_cons (x_at 49 (by decide +kernel) rfl) (x_cons (x_bw0 9 rfl rfl) x_nilm)))) (x_bw77 7 rfl rfl) (by decide +kernel) ⟨Nat.le_of_ble_eq_true rfl, Nat.le_of_ble_eq_true rfl⟩) (x_cons (x_cokV (ci := 12) X xm143 rfl rfl rfl (x_cons (x_bw68 3 rfl rfl) (x_cons (x_bw68 5 rfl rfl) (x_cons (x_at 32 (by decide +kernel) rfl) (x_cons (x_bw0 9 rfl rfl) x_nilm)))) (x_bw68 6 rfl rfl) (by decide +kernel) ⟨Nat.le_of_ble_eq_true rfl, Nat.le_of_ble_eq_true rfl⟩) (x_cons (x_cokV (ci := 12) X xm186 rfl rfl rfl (x_cons (x_bw77 8 rfl rfl) (x_cons (x_bw77 10 rfl rfl) (x_cons (x_at 50 (by decide +kernel) rfl) (x_cons (x_bw0 9 rfl rfl) x_nilm)))) (x_bw77 11 rfl rfl) (by decide +kernel) ⟨Nat.le_of_ble_eq_true rfl, Nat.le_of_ble_eq_true rfl⟩) (x_cons (x_cokV (ci := 12) X xm191 rfl rfl rfl (x_cons (x_bw78 11 rfl rfl) (x_cons (x_bw78 13 rfl rfl) (x_cons (x_at 52 (by decide +kernel) rfl) (x_cons (x_bw0 9 rfl rfl) x_nilm)))) (x_bw78 14 rfl rfl) (by decide +kernel) ⟨Nat.le_of_ble_eq_true rfl, Nat.le_of_ble_eq_true rfl⟩) x_nilm)))))), x_nilm, x_nilm, x_nilm⟩
set_option maxRecDepth 1000000 in
theorem xm194 : x_Met vwCl x_G x_Zs x_Tb x_Nb xM194 := x_main xT194 [(27, ([(0, xR false [17]), (1, xI (-1) 10), (2, xF), (3, xI 0 1024)], [], []), (3, true), [], false, 0, [])] [] 2500 (by decide +kernel) (by decide +kernel) xk194 (by decide +kernel)
/-- TwinFiresModel.years(I)I -/
def xM195 : xM := (⟨"TwinFiresModel", "years", "(I)I"⟩, prog_14_method_47_code, 4, some .int, [xR false [17], xF], [([xR false [17], xF], some (xF))], [(50, 0), (51, 0)], (4, 107, 0, 0), none)
def xT195 : xTab := ([(7, 17, 0)], [], [], [], [], [], [], [(1, 129, 1, none, xM167), (0, 102, 1, some 17, xM143), (0, 144, 3, some 17, xM185), (0, 237, 2, some 17, xM184), (0, 243, 2, some 17, xM191)], [], [], [])
set_option maxRecDepth 100000 in
set_option maxHeartbeats 4000000 in
theorem xk195 : x_TOK vwCl x_G x_Zs x_Tb x_Nb xM195 xT195 := by
  intro p l e s m args below meth c D U hx hb hml hts hown hK hK0 hU hnm hN
  have X : x_cx p s m args c D U xM195.2.1 xM195.2.2.1 vwCl x_Tb x_Nb xM195.1.cls := ⟨hx, hb, hml, hown, hts, hK, hK0, hU, hN, x_Tb_good, x_Nb_ok⟩
  exact ⟨(x_cons (fl190 hts) x_nilm), x_nilm, x_nilm, x_nilm, x_nilm, x_nilm, x_nilm, (x_cons (x_cokS X xm167 (x_cons (x_bw71 11 rfl rfl) (x_cons (x_bw71 12 rfl rfl) (x_cons (x_bw0 9 rfl rfl) x_nilm))) (x_bw71 13 rfl rfl) (by decide +kernel) ⟨Nat.le_of_ble_eq_true rfl, Nat.le_of_ble_eq_true rfl⟩) (x_cons (x_cokV (ci := 12) X xm143 rfl rfl rfl (x_cons (x_bw68 3 rfl rfl) (x_cons (x_bw68 5 rfl rfl) (x_cons (x_at 32 (by decide +kernel) rfl) (x_cons (x_bw0 9 rfl rfl) x_nilm)))) (x_bw68 6 rfl rfl) (by decide +kernel) ⟨Nat.le_of_ble_eq_true rfl, Nat.le_of_ble_eq_true rfl⟩) (x_cons (x_cokV (ci := 12) X xm185 rfl rfl rfl (x_cons (x_bw77 12 rfl rfl) (x_cons (x_bw77 14 rfl rfl) (x_cons (x_at 51 (by decide +kernel) rfl) (x_cons (x_bw0 9 rfl rfl) x_nilm)))) (x_bw77 15 rfl rfl) (by decide +kernel) ⟨Nat.le_of_ble_eq_true rfl, Nat.le_of_ble_eq_true rfl⟩) (x_cons (x_cokV (ci := 12) X xm184 rfl rfl rfl (x_cons (x_bw77 0 rfl rfl) (x_cons (x_bw77 2 rfl rfl) (x_cons (x_at 48 (by decide +kernel) rfl) (x_cons (x_bw0 9 rfl rfl) x_nilm)))) (x_bw77 3 rfl rfl) (by decide +kernel) ⟨Nat.le_of_ble_eq_true rfl, Nat.le_of_ble_eq_true rfl⟩) (x_cons (x_cokV (ci := 12) X xm191 rfl rfl rfl (x_cons (x_bw78 11 rfl rfl) (x_cons (x_bw78 13 rfl rfl) (x_cons (x_at 52 (by decide +kernel) rfl) (x_cons (x_bw0 9 rfl rfl) x_nilm)))) (x_bw78 14 rfl rfl) (by decide +kernel) ⟨Nat.le_of_ble_eq_true rfl, Nat.le_of_ble_eq_true rfl⟩) x_nilm))))), x_nilm, x_nilm, x_nilm⟩
set_option maxRecDepth 1000000 in
theorem xm195 : x_Met vwCl x_G x_Zs x_Tb x_Nb xM195 := x_main xT195 [(17, ([(0, xR false [17]), (1, xI 0 1023), (2, xI 0 1023), (3, xI 0 10)], [], []), (3, true), [], false, 0, [])] [] 2500 (by decide +kernel) (by decide +kernel) xk195 (by decide +kernel)
/-- TwinFiresModel.mist(II)I -/
def xM197 : xM := (⟨"TwinFiresModel", "mist", "(II)I"⟩, prog_14_method_48_code, 3, some .int, [xR false [17], xF, xF], [([xR false [17], xF, xF], some (xF))], [(46, 0), (50, 0)], (2, 42, 0, 0), none)
/-- TwinFiresModel.hours(I)I -/
def xM198 : xM := (⟨"TwinFiresModel", "hours", "(I)I"⟩, prog_14_method_49_code, 4, some .int, [xR false [17], xF], [([xR false [17], xF], some (xF))], [(50, 0), (51, 0)], (4, 107, 0, 0), none)
def xT198 : xTab := ([(7, 17, 0)], [], [], [], [], [], [], [(0, 102, 1, some 17, xM143), (0, 144, 3, some 17, xM185), (0, 237, 2, some 17, xM184), (0, 243, 2, some 17, xM191)], [], [], [])
set_option maxRecDepth 100000 in
set_option maxHeartbeats 4000000 in
theorem xk198 : x_TOK vwCl x_G x_Zs x_Tb x_Nb xM198 xT198 := by
  intro p l e s m args below meth c D U hx hb hml hts hown hK hK0 hU hnm hN
  have X : x_cx p s m args c D U xM198.2.1 xM198.2.2.1 vwCl x_Tb x_Nb xM198.1.cls := ⟨hx, hb, hml, hown, hts, hK, hK0, hU, hN, x_Tb_good, x_Nb_ok⟩
  exact ⟨(x_cons (fl190 hts) x_nilm), x_nilm, x_nilm, x_nilm, x_nilm, x_nilm, x_nilm, (x_cons (x_cokV (ci := 12) X xm143 rfl rfl rfl (x_cons (x_bw68 3 rfl rfl) (x_cons (x_bw68 5 rfl rfl) (x_cons (x_at 32 (by decide +kernel) rfl) (x_cons (x_bw0 9 rfl rfl) x_nilm)))) (x_bw68 6 rfl rfl) (by decide +kernel) ⟨Nat.le_of_ble_eq_true rfl, Nat.le_of_ble_eq_true rfl⟩) (x_cons (x_cokV (ci := 12) X xm185 rfl rfl rfl (x_cons (x_bw77 12 rfl rfl) (x_cons (x_bw77 14 rfl rfl) (x_cons (x_at 51 (by decide +kernel) rfl) (x_cons (x_bw0 9 rfl rfl) x_nilm)))) (x_bw77 15 rfl rfl) (by decide +kernel) ⟨Nat.le_of_ble_eq_true rfl, Nat.le_of_ble_eq_true rfl⟩) (x_cons (x_cokV (ci := 12) X xm184 rfl rfl rfl (x_cons (x_bw77 0 rfl rfl) (x_cons (x_bw77 2 rfl rfl) (x_cons (x_at 48 (by decide +kernel) rfl) (x_cons (x_bw0 9 rfl rfl) x_nilm)))) (x_bw77 3 rfl rfl) (by decide +kernel) ⟨Nat.le_of_ble_eq_true rfl, Nat.le_of_ble_eq_true rfl⟩) (x_cons (x_cokV (ci := 12) X xm191 rfl rfl rfl (x_cons (x_bw78 11 rfl rfl) (x_cons (x_bw78 13 rfl rfl) (x_cons (x_at 52 (by decide +kernel) rfl) (x_cons (x_bw0 9 rfl rfl) x_nilm)))) (x_bw78 14 rfl rfl) (by decide +kernel) ⟨Nat.le_of_ble_eq_true rfl, Nat.le_of_ble_eq_true rfl⟩) x_nilm)))), x_nilm, x_nilm, x_nilm⟩
set_option maxRecDepth 1000000 in
theorem xm198 : x_Met vwCl x_G x_Zs x_Tb x_Nb xM198 := x_main xT198 [(17, ([(0, xR false [17]), (1, xI 0 1023), (2, xI 0 2147483647), (3, xI 0 12)], [], []), (3, true), [], false, 0, [])] [] 2500 (by decide +kernel) (by decide +kernel) xk198 (by decide +kernel)
/-- TwinFiresModel.doneCost(IZ)I -/
def xM199 : xM := (⟨"TwinFiresModel", "doneCost", "(IZ)I"⟩, prog_14_method_50_code, 5, some .int, [xR false [17], xF, xI 0 1], [([xR false [17], xF, xI 0 1], some (xF))], [], (1, 22, 0, 0), none)
def xT199 : xTab := ([(7, 17, 0)], [], [], [], [], [], [], [(0, 123, 3, some 17, xM163)], [], [], [])
set_option maxRecDepth 100000 in
set_option maxHeartbeats 4000000 in
theorem xk199 : x_TOK vwCl x_G x_Zs x_Tb x_Nb xM199 xT199 := by
  intro p l e s m args below meth c D U hx hb hml hts hown hK hK0 hU hnm hN
  have X : x_cx p s m args c D U xM199.2.1 xM199.2.2.1 vwCl x_Tb x_Nb xM199.1.cls := ⟨hx, hb, hml, hown, hts, hK, hK0, hU, hN, x_Tb_good, x_Nb_ok⟩
  exact ⟨(x_cons (fl190 hts) x_nilm), x_nilm, x_nilm, x_nilm, x_nilm, x_nilm, x_nilm, (x_cons (x_cokV (ci := 12) X xm163 rfl rfl rfl (x_cons (x_bw70 7 rfl rfl) (x_cons (x_bw70 9 rfl rfl) (x_cons (x_at 37 (by decide +kernel) rfl) (x_cons (x_bw0 9 rfl rfl) x_nilm)))) (x_bw70 10 rfl rfl) (by decide +kernel) ⟨Nat.le_of_ble_eq_true rfl, Nat.le_of_ble_eq_true rfl⟩) x_nilm), x_nilm, x_nilm, x_nilm⟩
set_option maxRecDepth 1000000 in
theorem xm199 : x_Met vwCl x_G x_Zs x_Tb x_Nb xM199 := x_main xT199 [(5, ([(0, xR false [17]), (1, xF), (2, xI 0 1), (3, xF), (4, xI 0 8)], [], []), (4, true), [], false, 0, [])] [] 2500 (by decide +kernel) (by decide +kernel) xk199 (by decide +kernel)
/-- TwinFiresModel.works(IZ)I -/
def xM200 : xM := (⟨"TwinFiresModel", "works", "(IZ)I"⟩, prog_14_method_51_code, 7, some .int, [xR false [17], xF, xI 0 1], [([xR false [17], xF, xI 0 1], some (xI (-1) 255))], [(46, 0), (51, 0)], (5, 127, 0, 0), none)
/-- TwinFiresModel.fewest(II)I -/
def xM201 : xM := (⟨"TwinFiresModel", "fewest", "(II)I"⟩, prog_14_method_52_code, 4, some .int, [xR false [17], xF, xF], [([xR false [17], xF, xF], some (xF))], [(46, 0), (50, 0), (51, 0)], (6, 153, 0, 0), none)
/-- TwinFiresModel.cheapest(II)I -/
def xM202 : xM := (⟨"TwinFiresModel", "cheapest", "(II)I"⟩, prog_14_method_53_code, 4, some .int, [xR false [17], xF, xF], [([xR false [17], xF, xF], some (xF))], [(46, 0), (50, 0), (51, 0)], (6, 153, 0, 0), none)
/-- TwinFiresModel.tower(I)I -/
def xM203 : xM := (⟨"TwinFiresModel", "tower", "(I)I"⟩, prog_14_method_54_code, 7, some .int, [xR false [17], xF], [([xR false [17], xF], some (xF))], [(46, 0), (50, 0)], (3, 83, 0, 0), none)
/-- TwinFiresModel.lawsNow()V -/
def xM204 : xM := (⟨"TwinFiresModel", "lawsNow", "()V"⟩, prog_14_method_55_code, 2, none, [xR false [17]], [([xR false [17]], none)], [(51, 0), (55, 0)], (5, 127, 0, 0), none)
def xT204 : xTab := ([(38, 17, 18)], [], [], [], [], [], [], [(0, 91, 1, some 17, xM182), (0, 240, 1, some 17, xM186), (0, 243, 2, some 17, xM191)], [], [], [])
set_option maxRecDepth 100000 in
set_option maxHeartbeats 4000000 in
theorem xk204 : x_TOK vwCl x_G x_Zs x_Tb x_Nb xM204 xT204 := by
  intro p l e s m args below meth c D U hx hb hml hts hown hK hK0 hU hnm hN
  have X : x_cx p s m args c D U xM204.2.1 xM204.2.2.1 vwCl x_Tb x_Nb xM204.1.cls := ⟨hx, hb, hml, hown, hts, hK, hK0, hU, hN, x_Tb_good, x_Nb_ok⟩
  exact ⟨(x_cons (fl200 hts) x_nilm), x_nilm, x_nilm, x_nilm, x_nilm, x_nilm, x_nilm, (x_cons (x_cokV (ci := 12) X xm182 rfl rfl rfl (x_cons (x_bw77 4 rfl rfl) (x_cons (x_bw77 6 rfl rfl) (x_cons (x_at 49 (by decide +kernel) rfl) (x_cons (x_bw0 9 rfl rfl) x_nilm)))) (x_bw77 7 rfl rfl) (by decide +kernel) ⟨Nat.le_of_ble_eq_true rfl, Nat.le_of_ble_eq_true rfl⟩) (x_cons (x_cokV (ci := 12) X xm186 rfl rfl rfl (x_cons (x_bw77 8 rfl rfl) (x_cons (x_bw77 10 rfl rfl) (x_cons (x_at 50 (by decide +kernel) rfl) (x_cons (x_bw0 9 rfl rfl) x_nilm)))) (x_bw77 11 rfl rfl) (by decide +kernel) ⟨Nat.le_of_ble_eq_true rfl, Nat.le_of_ble_eq_true rfl⟩) (x_cons (x_cokV (ci := 12) X xm191 rfl rfl rfl (x_cons (x_bw78 11 rfl rfl) (x_cons (x_bw78 13 rfl rfl) (x_cons (x_at 52 (by decide +kernel) rfl) (x_cons (x_bw0 9 rfl rfl) x_nilm)))) (x_bw78 14 rfl rfl) (by decide +kernel) ⟨Nat.le_of_ble_eq_true rfl, Nat.le_of_ble_eq_true rfl⟩) x_nilm))), x_nilm, x_nilm, x_nilm⟩
set_option maxRecDepth 1000000 in
theorem xm204 : x_Met vwCl x_G x_Zs x_Tb x_Nb xM204 := x_main xT204 [(6, ([(0, xR false [17]), (1, xI 0 1024)], [], []), (1, true), [], false, 0, [])] [] 2500 (by decide +kernel) (by decide +kernel) xk204 (by decide +kernel)
/-- TwinFiresModel.isStep(II)Z -/
def xM205 : xM := (⟨"TwinFiresModel", "isStep", "(II)Z"⟩, prog_14_method_56_code, 3, some .boolean, [xF, xF], [([xF, xF], some (xI 1 1)), ([xF, xF], some (xI 0 0))], [], (1, 22, 0, 0), none)
/-- TwinFiresModel.in(JJJ)Z -/
def xM206 : xM := (⟨"TwinFiresModel", "in", "(JJJ)Z"⟩, prog_14_method_2_code, 6, some .boolean, [xFL, xL 0 0, xL 6 6], [([xL 0 6, xL 0 0, xL 6 6], some (xI 1 1)), ([xFL, xL 0 0, xL 6 6], some (xI 0 0))], [], (0, 0, 0, 0), none)
def xT206 : xTab := ([], [], [], [], [], [], [], [], [], [], [])
set_option maxRecDepth 100000 in
set_option maxHeartbeats 4000000 in
theorem xk206 : x_TOK vwCl x_G x_Zs x_Tb x_Nb xM206 xT206 := by
  intro p l e s m args below meth c D U hx hb hml hts hown hK hK0 hU hnm hN
  have X : x_cx p s m args c D U xM206.2.1 xM206.2.2.1 vwCl x_Tb x_Nb xM206.1.cls := ⟨hx, hb, hml, hown, hts, hK, hK0, hU, hN, x_Tb_good, x_Nb_ok⟩
  exact ⟨x_nilm, x_nilm, x_nilm, x_nilm, x_nilm, x_nilm, x_nilm, x_nilm, x_nilm, x_nilm, x_nilm⟩
set_option maxRecDepth 1000000 in
theorem xm206 : x_Met vwCl x_G x_Zs x_Tb x_Nb xM206 := x_main xT206 [] [] 2500 (by decide +kernel) (by decide +kernel) xk206 (by decide +kernel)
/-- TwinFiresModel.mists(I)V -/
def xM207 : xM := (⟨"TwinFiresModel", "mists", "(I)V"⟩, prog_14_method_61_code, 5, none, [xR false [17], xF], [([xR false [17], xF], none)], [(51, 0), (59, 0), (60, 0)], (4, 107, 0, 0), none)
/-- TwinFiresModel.letter(I)I -/
def xM208 : xM := (⟨"TwinFiresModel", "letter", "(I)I"⟩, prog_14_method_63_code, 2, some .int, [xR false [17], xF], [([xR false [17], xF], some (xF))], [(46, 0), (50, 0)], (2, 42, 0, 0), none)
/-- TwinFiresModel.puts(II)I -/
def xM209 : xM := (⟨"TwinFiresModel", "puts", "(II)I"⟩, prog_14_method_9_code, 4, some .int, [xR false [17], xI 2 2, xI 0 0], [([xR false [17], xI 2 2, xI 0 0], some (xI 0 8))], [(46, 0)], (0, 0, 0, 0), none)
/-- TwinFiresModel.unword()I -/
def xM210 : xM := (⟨"TwinFiresModel", "unword", "()I"⟩, prog_14_method_64_code, 1, some .int, [xR false [17]], [([xR false [17]], some (xI 0 8))], [(46, 0)], (1, 23, 0, 0), none)
