/-- TwinFiresModel.in(JJJ)Z -/
def xM151 : xM := (⟨"TwinFiresModel", "in", "(JJJ)Z"⟩, prog_14_method_2_code, 6, some .boolean, [xFL, xL 0 0, xL 9 9], [([xL 0 9, xL 0 0, xL 9 9], some (xI 1 1)), ([xFL, xL 0 0, xL 9 9], some (xI 0 0))], [], (0, 0, 0, 0), none)
def xT151 : xTab := ([], [], [], [], [], [], [], [], [], [], [])
set_option maxRecDepth 100000 in
set_option maxHeartbeats 4000000 in
theorem xk151 : x_TOK vwCl x_G x_Zs x_Tb x_Nb xM151 xT151 := by
  intro p l e s m args below meth c D U hx hb hml hts hown hK hK0 hU hnm hN
  have X : x_cx p s m args c D U xM151.2.1 xM151.2.2.1 vwCl x_Tb x_Nb xM151.1.cls := ⟨hx, hb, hml, hown, hts, hK, hK0, hU, hN, x_Tb_good, x_Nb_ok⟩
  exact ⟨x_nilm, x_nilm, x_nilm, x_nilm, x_nilm, x_nilm, x_nilm, x_nilm, x_nilm, x_nilm, x_nilm⟩
set_option maxRecDepth 1000000 in
theorem xm151 : x_Met vwCl x_G x_Zs x_Tb x_Nb xM151 := x_main xT151 [] [] 2500 (by decide +kernel) (by decide +kernel) xk151 (by decide +kernel)
/-- TwinFiresModel.thing(IIIII)I -/
def xM152 : xM := (⟨"TwinFiresModel", "thing", "(IIIII)I"⟩, prog_14_method_20_code, 8, some .int, [xR false [17], xF, xF, xF, xF, xF], [([xR false [17], xF, xF, xF, xF, xF], some (xF))], [(46, 0), (50, 0)], (2, 42, 0, 0), none)
def xT152 : xTab := ([(7, 17, 0)], [], [], [], [], [], [(95, 19), (97, 99), (108, 5), (110, 9)], [(1, 87, 3, none, xM149), (1, 87, 3, none, xM141), (1, 87, 3, none, xM144), (1, 87, 3, none, xM150), (1, 87, 3, none, xM151), (0, 102, 1, some 17, xM143), (0, 105, 1, some 17, xM146)], [], [], [])
set_option maxRecDepth 100000 in
set_option maxHeartbeats 4000000 in
theorem xk152 : x_TOK vwCl x_G x_Zs x_Tb x_Nb xM152 xT152 := by
  intro p l e s m args below meth c D U hx hb hml hts hown hK hK0 hU hnm hN
  have X : x_cx p s m args c D U xM152.2.1 xM152.2.2.1 vwCl x_Tb x_Nb xM152.1.cls := ⟨hx, hb, hml, hown, hts, hK, hK0, hU, hN, x_Tb_good, x_Nb_ok⟩
  exact ⟨(x_cons (fl190 hts) x_nilm), x_nilm, x_nilm, x_nilm, x_nilm, x_nilm, (x_cons ⟨19, rfl, (hts _ (x_bw67 10 rfl rfl))⟩ (x_cons ⟨99, rfl, (hts _ (x_bw67 14 rfl rfl))⟩ (x_cons ⟨5, rfl, (hts _ (x_bw69 3 rfl rfl))⟩ (x_cons ⟨9, rfl, (hts _ (x_bw69 4 rfl rfl))⟩ x_nilm)))), (x_cons (x_cokS X xm149 (x_cons (x_bw67 11 rfl rfl) (x_cons (x_bw67 12 rfl rfl) (x_cons (x_bw0 9 rfl rfl) x_nilm))) (x_bw67 13 rfl rfl) (by decide +kernel) ⟨Nat.le_of_ble_eq_true rfl, Nat.le_of_ble_eq_true rfl⟩) (x_cons (x_cokS X xm141 (x_cons (x_bw67 11 rfl rfl) (x_cons (x_bw67 12 rfl rfl) (x_cons (x_bw0 9 rfl rfl) x_nilm))) (x_bw67 13 rfl rfl) (by decide +kernel) ⟨Nat.le_of_ble_eq_true rfl, Nat.le_of_ble_eq_true rfl⟩) (x_cons (x_cokS X xm144 (x_cons (x_bw67 11 rfl rfl) (x_cons (x_bw67 12 rfl rfl) (x_cons (x_bw0 9 rfl rfl) x_nilm))) (x_bw67 13 rfl rfl) (by decide +kernel) ⟨Nat.le_of_ble_eq_true rfl, Nat.le_of_ble_eq_true rfl⟩) (x_cons (x_cokS X xm150 (x_cons (x_bw67 11 rfl rfl) (x_cons (x_bw67 12 rfl rfl) (x_cons (x_bw0 9 rfl rfl) x_nilm))) (x_bw67 13 rfl rfl) (by decide +kernel) ⟨Nat.le_of_ble_eq_true rfl, Nat.le_of_ble_eq_true rfl⟩) (x_cons (x_cokS X xm151 (x_cons (x_bw67 11 rfl rfl) (x_cons (x_bw67 12 rfl rfl) (x_cons (x_bw0 9 rfl rfl) x_nilm))) (x_bw67 13 rfl rfl) (by decide +kernel) ⟨Nat.le_of_ble_eq_true rfl, Nat.le_of_ble_eq_true rfl⟩) (x_cons (x_cokV (ci := 12) X xm143 rfl rfl rfl (x_cons (x_bw68 3 rfl rfl) (x_cons (x_bw68 5 rfl rfl) (x_cons (x_at 32 (by decide +kernel) rfl) (x_cons (x_bw0 9 rfl rfl) x_nilm)))) (x_bw68 6 rfl rfl) (by decide +kernel) ⟨Nat.le_of_ble_eq_true rfl, Nat.le_of_ble_eq_true rfl⟩) (x_cons (x_cokV (ci := 12) X xm146 rfl rfl rfl (x_cons (x_bw68 11 rfl rfl) (x_cons (x_bw68 13 rfl rfl) (x_cons (x_at 34 (by decide +kernel) rfl) (x_cons (x_bw0 9 rfl rfl) x_nilm)))) (x_bw68 14 rfl rfl) (by decide +kernel) ⟨Nat.le_of_ble_eq_true rfl, Nat.le_of_ble_eq_true rfl⟩) x_nilm))))))), x_nilm, x_nilm, x_nilm⟩
set_option maxRecDepth 1000000 in
theorem xm152 : x_Met vwCl x_G x_Zs x_Tb x_Nb xM152 := x_main xT152 [] [] 2500 (by decide +kernel) (by decide +kernel) xk152 (by decide +kernel)
/-- TwinFiresModel.puts(II)I -/
def xM153 : xM := (⟨"TwinFiresModel", "puts", "(II)I"⟩, prog_14_method_9_code, 4, some .int, [xR false [17], xI 5 5, xI 0 99], [([xR false [17], xI 5 5, xI 0 99], some (xF))], [(46, 0)], (0, 0, 0, 0), none)
def xT153 : xTab := ([(7, 17, 0)], [], [], [], [], [], [], [], [], [], [])
set_option maxRecDepth 100000 in
set_option maxHeartbeats 4000000 in
theorem xk153 : x_TOK vwCl x_G x_Zs x_Tb x_Nb xM153 xT153 := by
  intro p l e s m args below meth c D U hx hb hml hts hown hK hK0 hU hnm hN
  have X : x_cx p s m args c D U xM153.2.1 xM153.2.2.1 vwCl x_Tb x_Nb xM153.1.cls := ⟨hx, hb, hml, hown, hts, hK, hK0, hU, hN, x_Tb_good, x_Nb_ok⟩
  exact ⟨(x_cons (fl190 hts) x_nilm), x_nilm, x_nilm, x_nilm, x_nilm, x_nilm, x_nilm, x_nilm, x_nilm, x_nilm, x_nilm⟩
set_option maxRecDepth 1000000 in
theorem xm153 : x_Met vwCl x_G x_Zs x_Tb x_Nb xM153 := x_main xT153 [] [] 2500 (by decide +kernel) (by decide +kernel) xk153 (by decide +kernel)
/-- TwinFiresModel.in(JJJ)Z -/
def xM154 : xM := (⟨"TwinFiresModel", "in", "(JJJ)Z"⟩, prog_14_method_2_code, 6, some .boolean, [xFL, xL 0 0, xL 3 3], [([xL 0 3, xL 0 0, xL 3 3], some (xI 1 1)), ([xFL, xL 0 0, xL 3 3], some (xI 0 0))], [], (0, 0, 0, 0), none)
def xT154 : xTab := ([], [], [], [], [], [], [], [], [], [], [])
set_option maxRecDepth 100000 in
set_option maxHeartbeats 4000000 in
theorem xk154 : x_TOK vwCl x_G x_Zs x_Tb x_Nb xM154 xT154 := by
  intro p l e s m args below meth c D U hx hb hml hts hown hK hK0 hU hnm hN
  have X : x_cx p s m args c D U xM154.2.1 xM154.2.2.1 vwCl x_Tb x_Nb xM154.1.cls := ⟨hx, hb, hml, hown, hts, hK, hK0, hU, hN, x_Tb_good, x_Nb_ok⟩
  exact ⟨x_nilm, x_nilm, x_nilm, x_nilm, x_nilm, x_nilm, x_nilm, x_nilm, x_nilm, x_nilm, x_nilm⟩
set_option maxRecDepth 1000000 in
theorem xm154 : x_Met vwCl x_G x_Zs x_Tb x_Nb xM154 := x_main xT154 [] [] 2500 (by decide +kernel) (by decide +kernel) xk154 (by decide +kernel)
/-- TwinFiresModel.puts(II)I -/
def xM155 : xM := (⟨"TwinFiresModel", "puts", "(II)I"⟩, prog_14_method_9_code, 4, some .int, [xR false [17], xI 6 6, xI 0 3], [([xR false [17], xI 6 6, xI 0 3], some (xF))], [(46, 0)], (0, 0, 0, 0), none)
def xT155 : xTab := ([(7, 17, 0)], [], [], [], [], [], [], [], [], [], [])
set_option maxRecDepth 100000 in
set_option maxHeartbeats 4000000 in
theorem xk155 : x_TOK vwCl x_G x_Zs x_Tb x_Nb xM155 xT155 := by
  intro p l e s m args below meth c D U hx hb hml hts hown hK hK0 hU hnm hN
  have X : x_cx p s m args c D U xM155.2.1 xM155.2.2.1 vwCl x_Tb x_Nb xM155.1.cls := ⟨hx, hb, hml, hown, hts, hK, hK0, hU, hN, x_Tb_good, x_Nb_ok⟩
  exact ⟨(x_cons (fl190 hts) x_nilm), x_nilm, x_nilm, x_nilm, x_nilm, x_nilm, x_nilm, x_nilm, x_nilm, x_nilm, x_nilm⟩
set_option maxRecDepth 1000000 in
theorem xm155 : x_Met vwCl x_G x_Zs x_Tb x_Nb xM155 := x_main xT155 [] [] 2500 (by decide +kernel) (by decide +kernel) xk155 (by decide +kernel)
/-- TwinFiresModel.in(JJJ)Z -/
def xM156 : xM := (⟨"TwinFiresModel", "in", "(JJJ)Z"⟩, prog_14_method_2_code, 6, some .boolean, [xFL, xL 1 1, xL 10 10], [([xL 1 10, xL 1 1, xL 10 10], some (xI 1 1)), ([xFL, xL 1 1, xL 10 10], some (xI 0 0))], [], (0, 0, 0, 0), none)
def xT156 : xTab := ([], [], [], [], [], [], [], [], [], [], [])
set_option maxRecDepth 100000 in
set_option maxHeartbeats 4000000 in
theorem xk156 : x_TOK vwCl x_G x_Zs x_Tb x_Nb xM156 xT156 := by
  intro p l e s m args below meth c D U hx hb hml hts hown hK hK0 hU hnm hN
  have X : x_cx p s m args c D U xM156.2.1 xM156.2.2.1 vwCl x_Tb x_Nb xM156.1.cls := ⟨hx, hb, hml, hown, hts, hK, hK0, hU, hN, x_Tb_good, x_Nb_ok⟩
  exact ⟨x_nilm, x_nilm, x_nilm, x_nilm, x_nilm, x_nilm, x_nilm, x_nilm, x_nilm, x_nilm, x_nilm⟩
set_option maxRecDepth 1000000 in
theorem xm156 : x_Met vwCl x_G x_Zs x_Tb x_Nb xM156 := x_main xT156 [] [] 2500 (by decide +kernel) (by decide +kernel) xk156 (by decide +kernel)
/-- TwinFiresModel.puts(II)I -/
def xM157 : xM := (⟨"TwinFiresModel", "puts", "(II)I"⟩, prog_14_method_9_code, 4, some .int, [xR false [17], xI 7 7, xI 1 10], [([xR false [17], xI 7 7, xI 1 10], some (xF))], [(46, 0)], (0, 0, 0, 0), none)
def xT157 : xTab := ([(7, 17, 0)], [], [], [], [], [], [], [], [], [], [])
set_option maxRecDepth 100000 in
set_option maxHeartbeats 4000000 in
theorem xk157 : x_TOK vwCl x_G x_Zs x_Tb x_Nb xM157 xT157 := by
  intro p l e s m args below meth c D U hx hb hml hts hown hK hK0 hU hnm hN
  have X : x_cx p s m args c D U xM157.2.1 xM157.2.2.1 vwCl x_Tb x_Nb xM157.1.cls := ⟨hx, hb, hml, hown, hts, hK, hK0, hU, hN, x_Tb_good, x_Nb_ok⟩
  exact ⟨(x_cons (fl190 hts) x_nilm), x_nilm, x_nilm, x_nilm, x_nilm, x_nilm, x_nilm, x_nilm, x_nilm, x_nilm, x_nilm⟩
set_option maxRecDepth 1000000 in
theorem xm157 : x_Met vwCl x_G x_Zs x_Tb x_Nb xM157 := x_main xT157 [] [] 2500 (by decide +kernel) (by decide +kernel) xk157 (by decide +kernel)
/-- TwinFiresModel.puts(II)I -/
def xM158 : xM := (⟨"TwinFiresModel", "puts", "(II)I"⟩, prog_14_method_9_code, 4, some .int, [xR false [17], xI 4 4, xI 0 99], [([xR false [17], xI 4 4, xI 0 99], some (xF))], [(46, 0)], (0, 0, 0, 0), none)
def xT158 : xTab := ([(7, 17, 0)], [], [], [], [], [], [], [], [], [], [])
set_option maxRecDepth 100000 in
set_option maxHeartbeats 4000000 in
theorem xk158 : x_TOK vwCl x_G x_Zs x_Tb x_Nb xM158 xT158 := by
  intro p l e s m args below meth c D U hx hb hml hts hown hK hK0 hU hnm hN
  have X : x_cx p s m args c D U xM158.2.1 xM158.2.2.1 vwCl x_Tb x_Nb xM158.1.cls := ⟨hx, hb, hml, hown, hts, hK, hK0, hU, hN, x_Tb_good, x_Nb_ok⟩
  exact ⟨(x_cons (fl190 hts) x_nilm), x_nilm, x_nilm, x_nilm, x_nilm, x_nilm, x_nilm, x_nilm, x_nilm, x_nilm, x_nilm⟩
set_option maxRecDepth 1000000 in
theorem xm158 : x_Met vwCl x_G x_Zs x_Tb x_Nb xM158 := x_main xT158 [] [] 2500 (by decide +kernel) (by decide +kernel) xk158 (by decide +kernel)
/-- TwinFiresModel.put(II)I -/
def xM159 : xM := (⟨"TwinFiresModel", "put", "(II)I"⟩, prog_14_method_21_code, 4, some .int, [xR false [17], xF, xF], [([xR false [17], xF, xF], some (xF))], [(46, 0), (50, 0)], (2, 42, 0, 0), none)
def xT159 : xTab := ([], [], [], [], [], [], [(97, 99), (112, 3), (114, 10)], [(1, 87, 3, none, xM144), (1, 87, 3, none, xM154), (1, 87, 3, none, xM156), (0, 102, 1, some 17, xM143), (0, 116, 3, some 17, xM155), (0, 116, 3, some 17, xM157), (0, 116, 3, some 17, xM153), (0, 116, 3, some 17, xM158)], [], [], [])
set_option maxRecDepth 100000 in
set_option maxHeartbeats 4000000 in
theorem xk159 : x_TOK vwCl x_G x_Zs x_Tb x_Nb xM159 xT159 := by
  intro p l e s m args below meth c D U hx hb hml hts hown hK hK0 hU hnm hN
  have X : x_cx p s m args c D U xM159.2.1 xM159.2.2.1 vwCl x_Tb x_Nb xM159.1.cls := ⟨hx, hb, hml, hown, hts, hK, hK0, hU, hN, x_Tb_good, x_Nb_ok⟩
  exact ⟨x_nilm, x_nilm, x_nilm, x_nilm, x_nilm, x_nilm, (x_cons ⟨99, rfl, (hts _ (x_bw67 14 rfl rfl))⟩ (x_cons ⟨3, rfl, (hts _ (x_bw69 9 rfl rfl))⟩ (x_cons ⟨10, rfl, (hts _ (x_bw69 10 rfl rfl))⟩ x_nilm))), (x_cons (x_cokS X xm144 (x_cons (x_bw67 11 rfl rfl) (x_cons (x_bw67 12 rfl rfl) (x_cons (x_bw0 9 rfl rfl) x_nilm))) (x_bw67 13 rfl rfl) (by decide +kernel) ⟨Nat.le_of_ble_eq_true rfl, Nat.le_of_ble_eq_true rfl⟩) (x_cons (x_cokS X xm154 (x_cons (x_bw67 11 rfl rfl) (x_cons (x_bw67 12 rfl rfl) (x_cons (x_bw0 9 rfl rfl) x_nilm))) (x_bw67 13 rfl rfl) (by decide +kernel) ⟨Nat.le_of_ble_eq_true rfl, Nat.le_of_ble_eq_true rfl⟩) (x_cons (x_cokS X xm156 (x_cons (x_bw67 11 rfl rfl) (x_cons (x_bw67 12 rfl rfl) (x_cons (x_bw0 9 rfl rfl) x_nilm))) (x_bw67 13 rfl rfl) (by decide +kernel) ⟨Nat.le_of_ble_eq_true rfl, Nat.le_of_ble_eq_true rfl⟩) (x_cons (x_cokV (ci := 12) X xm143 rfl rfl rfl (x_cons (x_bw68 3 rfl rfl) (x_cons (x_bw68 5 rfl rfl) (x_cons (x_at 32 (by decide +kernel) rfl) (x_cons (x_bw0 9 rfl rfl) x_nilm)))) (x_bw68 6 rfl rfl) (by decide +kernel) ⟨Nat.le_of_ble_eq_true rfl, Nat.le_of_ble_eq_true rfl⟩) (x_cons (x_cokV (ci := 12) X xm155 rfl rfl rfl (x_cons (x_bw69 11 rfl rfl) (x_cons (x_bw69 13 rfl rfl) (x_cons (x_at 35 (by decide +kernel) rfl) (x_cons (x_bw0 9 rfl rfl) x_nilm)))) (x_bw69 14 rfl rfl) (by decide +kernel) ⟨Nat.le_of_ble_eq_true rfl, Nat.le_of_ble_eq_true rfl⟩) (x_cons (x_cokV (ci := 12) X xm157 rfl rfl rfl (x_cons (x_bw69 11 rfl rfl) (x_cons (x_bw69 13 rfl rfl) (x_cons (x_at 35 (by decide +kernel) rfl) (x_cons (x_bw0 9 rfl rfl) x_nilm)))) (x_bw69 14 rfl rfl) (by decide +kernel) ⟨Nat.le_of_ble_eq_true rfl, Nat.le_of_ble_eq_true rfl⟩) (x_cons (x_cokV (ci := 12) X xm153 rfl rfl rfl (x_cons (x_bw69 11 rfl rfl) (x_cons (x_bw69 13 rfl rfl) (x_cons (x_at 35 (by decide +kernel) rfl) (x_cons (x_bw0 9 rfl rfl) x_nilm)))) (x_bw69 14 rfl rfl) (by decide +kernel) ⟨Nat.le_of_ble_eq_true rfl, Nat.le_of_ble_eq_true rfl⟩) (x_cons (x_cokV (ci := 12) X xm158 rfl rfl rfl (x_cons (x_bw69 11 rfl rfl) (x_cons (x_bw69 13 rfl rfl) (x_cons (x_at 35 (by decide +kernel) rfl) (x_cons (x_bw0 9 rfl rfl) x_nilm)))) (x_bw69 14 rfl rfl) (by decide +kernel) ⟨Nat.le_of_ble_eq_true rfl, Nat.le_of_ble_eq_true rfl⟩) x_nilm)))))))), x_nilm, x_nilm, x_nilm⟩
set_option maxRecDepth 1000000 in
theorem xm159 : x_Met vwCl x_G x_Zs x_Tb x_Nb xM159 := x_main xT159 [] [] 2500 (by decide +kernel) (by decide +kernel) xk159 (by decide +kernel)
/-- TwinFiresModel.puts(II)I -/
def xM160 : xM := (⟨"TwinFiresModel", "puts", "(II)I"⟩, prog_14_method_9_code, 4, some .int, [xR false [17], xI 3 159, xF], [([xR false [17], xI 3 159, xF], some (xF))], [(46, 0)], (0, 0, 0, 0), none)
def xT160 : xTab := ([(7, 17, 0)], [], [], [], [], [], [], [], [], [], [])
set_option maxRecDepth 100000 in
set_option maxHeartbeats 4000000 in
theorem xk160 : x_TOK vwCl x_G x_Zs x_Tb x_Nb xM160 xT160 := by
  intro p l e s m args below meth c D U hx hb hml hts hown hK hK0 hU hnm hN
  have X : x_cx p s m args c D U xM160.2.1 xM160.2.2.1 vwCl x_Tb x_Nb xM160.1.cls := ⟨hx, hb, hml, hown, hts, hK, hK0, hU, hN, x_Tb_good, x_Nb_ok⟩
  exact ⟨(x_cons (fl190 hts) x_nilm), x_nilm, x_nilm, x_nilm, x_nilm, x_nilm, x_nilm, x_nilm, x_nilm, x_nilm, x_nilm⟩
set_option maxRecDepth 1000000 in
theorem xm160 : x_Met vwCl x_G x_Zs x_Tb x_Nb xM160 := x_main xT160 [] [] 2500 (by decide +kernel) (by decide +kernel) xk160 (by decide +kernel)
/-- TwinFiresModel.in(JJJ)Z -/
def xM161 : xM := (⟨"TwinFiresModel", "in", "(JJJ)Z"⟩, prog_14_method_2_code, 6, some .boolean, [xFL, xL 0 0, xL (-1) 7], [([xL 0 7, xL 0 0, xL 0 7], some (xI 1 1)), ([xFL, xL 0 0, xL (-1) 7], some (xI 0 0))], [], (0, 0, 0, 0), none)
def xT161 : xTab := ([], [], [], [], [], [], [], [], [], [], [])
set_option maxRecDepth 100000 in
set_option maxHeartbeats 4000000 in
theorem xk161 : x_TOK vwCl x_G x_Zs x_Tb x_Nb xM161 xT161 := by
  intro p l e s m args below meth c D U hx hb hml hts hown hK hK0 hU hnm hN
  have X : x_cx p s m args c D U xM161.2.1 xM161.2.2.1 vwCl x_Tb x_Nb xM161.1.cls := ⟨hx, hb, hml, hown, hts, hK, hK0, hU, hN, x_Tb_good, x_Nb_ok⟩
  exact ⟨x_nilm, x_nilm, x_nilm, x_nilm, x_nilm, x_nilm, x_nilm, x_nilm, x_nilm, x_nilm, x_nilm⟩
set_option maxRecDepth 1000000 in
theorem xm161 : x_Met vwCl x_G x_Zs x_Tb x_Nb xM161 := x_main xT161 [] [] 2500 (by decide +kernel) (by decide +kernel) xk161 (by decide +kernel)
/-- TwinFiresModel.isThing(I)Z -/
def xM162 : xM := (⟨"TwinFiresModel", "isThing", "(I)Z"⟩, prog_14_method_14_code, 2, some .boolean, [xR false [17], xF], [([xR false [17], xF], some (xI 0 0)), ([xR false [17], xI 0 7], some (xI 1 1))], [], (1, 25, 0, 0), none)
def xT162 : xTab := ([(7, 17, 0)], [], [], [], [], [], [], [(1, 87, 3, none, xM161)], [], [], [])
set_option maxRecDepth 100000 in
set_option maxHeartbeats 4000000 in
theorem xk162 : x_TOK vwCl x_G x_Zs x_Tb x_Nb xM162 xT162 := by
  intro p l e s m args below meth c D U hx hb hml hts hown hK hK0 hU hnm hN
  have X : x_cx p s m args c D U xM162.2.1 xM162.2.2.1 vwCl x_Tb x_Nb xM162.1.cls := ⟨hx, hb, hml, hown, hts, hK, hK0, hU, hN, x_Tb_good, x_Nb_ok⟩
  exact ⟨(x_cons (fl190 hts) x_nilm), x_nilm, x_nilm, x_nilm, x_nilm, x_nilm, x_nilm, (x_cons (x_cokS X xm161 (x_cons (x_bw67 11 rfl rfl) (x_cons (x_bw67 12 rfl rfl) (x_cons (x_bw0 9 rfl rfl) x_nilm))) (x_bw67 13 rfl rfl) (by decide +kernel) ⟨Nat.le_of_ble_eq_true rfl, Nat.le_of_ble_eq_true rfl⟩) x_nilm), x_nilm, x_nilm, x_nilm⟩
set_option maxRecDepth 1000000 in
theorem xm162 : x_Met vwCl x_G x_Zs x_Tb x_Nb xM162 := x_main xT162 [] [] 2500 (by decide +kernel) (by decide +kernel) xk162 (by decide +kernel)
/-- TwinFiresModel.ofThing(II)I -/
def xM163 : xM := (⟨"TwinFiresModel", "ofThing", "(II)I"⟩, prog_14_method_18_code, 3, some .int, [xR false [17], xI 0 7, xI 0 6], [([xR false [17], xI 0 7, xI 0 6], some (xF))], [], (0, 0, 0, 0), none)
def xT163 : xTab := ([(7, 17, 0)], [], [], [], [], [], [], [], [], [], [])
set_option maxRecDepth 100000 in
set_option maxHeartbeats 4000000 in
theorem xk163 : x_TOK vwCl x_G x_Zs x_Tb x_Nb xM163 xT163 := by
  intro p l e s m args below meth c D U hx hb hml hts hown hK hK0 hU hnm hN
  have X : x_cx p s m args c D U xM163.2.1 xM163.2.2.1 vwCl x_Tb x_Nb xM163.1.cls := ⟨hx, hb, hml, hown, hts, hK, hK0, hU, hN, x_Tb_good, x_Nb_ok⟩
  exact ⟨(x_cons (fl190 hts) x_nilm), x_nilm, x_nilm, x_nilm, x_nilm, x_nilm, x_nilm, x_nilm, x_nilm, x_nilm, x_nilm⟩
set_option maxRecDepth 1000000 in
theorem xm163 : x_Met vwCl x_G x_Zs x_Tb x_Nb xM163 := x_main xT163 [] [] 2500 (by decide +kernel) (by decide +kernel) xk163 (by decide +kernel)
/-- TwinFiresModel.no()I -/
def xM164 : xM := (⟨"TwinFiresModel", "no", "()I"⟩, prog_14_method_7_code, 1, some .int, [xR false [17]], [([xR false [17]], some (xF))], [(50, 0)], (1, 22, 0, 0), none)
def xT164 : xTab := ([], [], [], [], [], [], [], [(0, 76, 3, some 17, xM142)], [], [], [])
set_option maxRecDepth 100000 in
set_option maxHeartbeats 4000000 in
theorem xk164 : x_TOK vwCl x_G x_Zs x_Tb x_Nb xM164 xT164 := by
  intro p l e s m args below meth c D U hx hb hml hts hown hK hK0 hU hnm hN
  have X : x_cx p s m args c D U xM164.2.1 xM164.2.2.1 vwCl x_Tb x_Nb xM164.1.cls := ⟨hx, hb, hml, hown, hts, hK, hK0, hU, hN, x_Tb_good, x_Nb_ok⟩
  exact ⟨x_nilm, x_nilm, x_nilm, x_nilm, x_nilm, x_nilm, x_nilm, (x_cons (x_cokV (ci := 12) X xm142 rfl rfl rfl (x_cons (x_bw68 7 rfl rfl) (x_cons (x_bw68 9 rfl rfl) (x_cons (x_at 33 (by decide +kernel) rfl) (x_cons (x_bw0 9 rfl rfl) x_nilm)))) (x_bw68 10 rfl rfl) (by decide +kernel) ⟨Nat.le_of_ble_eq_true rfl, Nat.le_of_ble_eq_true rfl⟩) x_nilm), x_nilm, x_nilm, x_nilm⟩
set_option maxRecDepth 1000000 in
theorem xm164 : x_Met vwCl x_G x_Zs x_Tb x_Nb xM164 := x_main xT164 [] [] 2500 (by decide +kernel) (by decide +kernel) xk164 (by decide +kernel)
/-- TwinFiresModel.work(IZ)I -/
def xM165 : xM := (⟨"TwinFiresModel", "work", "(IZ)I"⟩, prog_14_method_22_code, 3, some .int, [xR false [17], xF, xI 0 1], [([xR false [17], xF, xI 0 1], some (xF))], [(46, 0), (50, 0)], (2, 46, 0, 0), none)
def xT165 : xTab := ([(7, 17, 0)], [], [], [], [], [], [], [(0, 102, 1, some 17, xM143), (0, 119, 2, some 17, xM162), (0, 123, 3, some 17, xM163), (0, 126, 1, some 17, xM164)], [], [], [])
set_option maxRecDepth 100000 in
set_option maxHeartbeats 4000000 in
theorem xk165 : x_TOK vwCl x_G x_Zs x_Tb x_Nb xM165 xT165 := by
  intro p l e s m args below meth c D U hx hb hml hts hown hK hK0 hU hnm hN
  have X : x_cx p s m args c D U xM165.2.1 xM165.2.2.1 vwCl x_Tb x_Nb xM165.1.cls := ⟨hx, hb, hml, hown, hts, hK, hK0, hU, hN, x_Tb_good, x_Nb_ok⟩
  exact ⟨(x_cons (fl190 hts) x_nilm), x_nilm, x_nilm, x_nilm, x_nilm, x_nilm, x_nilm, (x_cons (x_cokV (ci := 12) X xm143 rfl rfl rfl (x_cons (x_bw68 3 rfl rfl) (x_cons (x_bw68 5 rfl rfl) (x_cons (x_at 32 (by decide +kernel) rfl) (x_cons (x_bw0 9 rfl rfl) x_nilm)))) (x_bw68 6 rfl rfl) (by decide +kernel) ⟨Nat.le_of_ble_eq_true rfl, Nat.le_of_ble_eq_true rfl⟩) (x_cons (x_cokV (ci := 12) X xm162 rfl rfl rfl (x_cons (x_bw70 3 rfl rfl) (x_cons (x_bw70 5 rfl rfl) (x_cons (x_at 36 (by decide +kernel) rfl) (x_cons (x_bw0 9 rfl rfl) x_nilm)))) (x_bw70 6 rfl rfl) (by decide +kernel) ⟨Nat.le_of_ble_eq_true rfl, Nat.le_of_ble_eq_true rfl⟩) (x_cons (x_cokV (ci := 12) X xm163 rfl rfl rfl (x_cons (x_bw70 7 rfl rfl) (x_cons (x_bw70 9 rfl rfl) (x_cons (x_at 37 (by decide +kernel) rfl) (x_cons (x_bw0 9 rfl rfl) x_nilm)))) (x_bw70 10 rfl rfl) (by decide +kernel) ⟨Nat.le_of_ble_eq_true rfl, Nat.le_of_ble_eq_true rfl⟩) (x_cons (x_cokV (ci := 12) X xm164 rfl rfl rfl (x_cons (x_bw70 11 rfl rfl) (x_cons (x_bw70 13 rfl rfl) (x_cons (x_at 38 (by decide +kernel) rfl) (x_cons (x_bw0 9 rfl rfl) x_nilm)))) (x_bw70 14 rfl rfl) (by decide +kernel) ⟨Nat.le_of_ble_eq_true rfl, Nat.le_of_ble_eq_true rfl⟩) x_nilm)))), x_nilm, x_nilm, x_nilm⟩
set_option maxRecDepth 1000000 in
theorem xm165 : x_Met vwCl x_G x_Zs x_Tb x_Nb xM165 := x_main xT165 [] [] 2500 (by decide +kernel) (by decide +kernel) xk165 (by decide +kernel)
/-- TwinFiresModel.cost(II)I -/
def xM166 : xM := (⟨"TwinFiresModel", "cost", "(II)I"⟩, prog_14_method_23_code, 3, some .int, [xR false [17], xF, xF], [([xR false [17], xF, xF], some (xF))], [(46, 0), (50, 0)], (2, 46, 0, 0), none)
def xT166 : xTab := ([], [], [], [], [], [], [(97, 99)], [(1, 87, 3, none, xM144), (0, 102, 1, some 17, xM143), (0, 116, 3, some 17, xM160), (0, 119, 2, some 17, xM162)], [], [], [])
set_option maxRecDepth 100000 in
set_option maxHeartbeats 4000000 in
theorem xk166 : x_TOK vwCl x_G x_Zs x_Tb x_Nb xM166 xT166 := by
  intro p l e s m args below meth c D U hx hb hml hts hown hK hK0 hU hnm hN
  have X : x_cx p s m args c D U xM166.2.1 xM166.2.2.1 vwCl x_Tb x_Nb xM166.1.cls := ⟨hx, hb, hml, hown, hts, hK, hK0, hU, hN, x_Tb_good, x_Nb_ok⟩
  exact ⟨x_nilm, x_nilm, x_nilm, x_nilm, x_nilm, x_nilm, (x_cons ⟨99, rfl, (hts _ (x_bw67 14 rfl rfl))⟩ x_nilm), (x_cons (x_cokS X xm144 (x_cons (x_bw67 11 rfl rfl) (x_cons (x_bw67 12 rfl rfl) (x_cons (x_bw0 9 rfl rfl) x_nilm))) (x_bw67 13 rfl rfl) (by decide +kernel) ⟨Nat.le_of_ble_eq_true rfl, Nat.le_of_ble_eq_true rfl⟩) (x_cons (x_cokV (ci := 12) X xm143 rfl rfl rfl (x_cons (x_bw68 3 rfl rfl) (x_cons (x_bw68 5 rfl rfl) (x_cons (x_at 32 (by decide +kernel) rfl) (x_cons (x_bw0 9 rfl rfl) x_nilm)))) (x_bw68 6 rfl rfl) (by decide +kernel) ⟨Nat.le_of_ble_eq_true rfl, Nat.le_of_ble_eq_true rfl⟩) (x_cons (x_cokV (ci := 12) X xm160 rfl rfl rfl (x_cons (x_bw69 11 rfl rfl) (x_cons (x_bw69 13 rfl rfl) (x_cons (x_at 35 (by decide +kernel) rfl) (x_cons (x_bw0 9 rfl rfl) x_nilm)))) (x_bw69 14 rfl rfl) (by decide +kernel) ⟨Nat.le_of_ble_eq_true rfl, Nat.le_of_ble_eq_true rfl⟩) (x_cons (x_cokV (ci := 12) X xm162 rfl rfl rfl (x_cons (x_bw70 3 rfl rfl) (x_cons (x_bw70 5 rfl rfl) (x_cons (x_at 36 (by decide +kernel) rfl) (x_cons (x_bw0 9 rfl rfl) x_nilm)))) (x_bw70 6 rfl rfl) (by decide +kernel) ⟨Nat.le_of_ble_eq_true rfl, Nat.le_of_ble_eq_true rfl⟩) x_nilm)))), x_nilm, x_nilm, x_nilm⟩
set_option maxRecDepth 1000000 in
theorem xm166 : x_Met vwCl x_G x_Zs x_Tb x_Nb xM166 := x_main xT166 [] [] 2500 (by decide +kernel) (by decide +kernel) xk166 (by decide +kernel)
/-- TwinFiresModel.most99(I)I -/
def xM167 : xM := (⟨"TwinFiresModel", "most99", "(I)I"⟩, prog_14_method_24_code, 1, some .int, [xF], [([xF], some (xI (-2147483648) 99))], [], (0, 0, 0, 0), none)
def xT167 : xTab := ([], [], [], [], [], [], [], [], [], [], [])
set_option maxRecDepth 100000 in
set_option maxHeartbeats 4000000 in
theorem xk167 : x_TOK vwCl x_G x_Zs x_Tb x_Nb xM167 xT167 := by
  intro p l e s m args below meth c D U hx hb hml hts hown hK hK0 hU hnm hN
  have X : x_cx p s m args c D U xM167.2.1 xM167.2.2.1 vwCl x_Tb x_Nb xM167.1.cls := ⟨hx, hb, hml, hown, hts, hK, hK0, hU, hN, x_Tb_good, x_Nb_ok⟩
  exact ⟨x_nilm, x_nilm, x_nilm, x_nilm, x_nilm, x_nilm, x_nilm, x_nilm, x_nilm, x_nilm, x_nilm⟩
set_option maxRecDepth 1000000 in
theorem xm167 : x_Met vwCl x_G x_Zs x_Tb x_Nb xM167 := x_main xT167 [] [] 2500 (by decide +kernel) (by decide +kernel) xk167 (by decide +kernel)
/-- TwinFiresModel.highIn(II)I -/
def xM168 : xM := (⟨"TwinFiresModel", "highIn", "(II)I"⟩, prog_14_method_25_code, 8, some .int, [xR false [17], xI 0 7, xF], [([xR false [17], xI 0 7, xF], some (xF))], [], (1, 22, 0, 0), none)
def xT168 : xTab := ([], [], [], [], [], [], [], [(1, 129, 1, none, xM167), (0, 123, 3, some 17, xM163)], [], [], [])
set_option maxRecDepth 100000 in
set_option maxHeartbeats 4000000 in
theorem xk168 : x_TOK vwCl x_G x_Zs x_Tb x_Nb xM168 xT168 := by
  intro p l e s m args below meth c D U hx hb hml hts hown hK hK0 hU hnm hN
  have X : x_cx p s m args c D U xM168.2.1 xM168.2.2.1 vwCl x_Tb x_Nb xM168.1.cls := ⟨hx, hb, hml, hown, hts, hK, hK0, hU, hN, x_Tb_good, x_Nb_ok⟩
  exact ⟨x_nilm, x_nilm, x_nilm, x_nilm, x_nilm, x_nilm, x_nilm, (x_cons (x_cokS X xm167 (x_cons (x_bw71 11 rfl rfl) (x_cons (x_bw71 12 rfl rfl) (x_cons (x_bw0 9 rfl rfl) x_nilm))) (x_bw71 13 rfl rfl) (by decide +kernel) ⟨Nat.le_of_ble_eq_true rfl, Nat.le_of_ble_eq_true rfl⟩) (x_cons (x_cokV (ci := 12) X xm163 rfl rfl rfl (x_cons (x_bw70 7 rfl rfl) (x_cons (x_bw70 9 rfl rfl) (x_cons (x_at 37 (by decide +kernel) rfl) (x_cons (x_bw0 9 rfl rfl) x_nilm)))) (x_bw70 10 rfl rfl) (by decide +kernel) ⟨Nat.le_of_ble_eq_true rfl, Nat.le_of_ble_eq_true rfl⟩) x_nilm)), x_nilm, x_nilm, x_nilm⟩
set_option maxRecDepth 1000000 in
theorem xm168 : x_Met vwCl x_G x_Zs x_Tb x_Nb xM168 := x_main xT168 [] [] 2500 (by decide +kernel) (by decide +kernel) xk168 (by decide +kernel)
/-- TwinFiresModel.high(I)I -/
def xM169 : xM := (⟨"TwinFiresModel", "high", "(I)I"⟩, prog_14_method_26_code, 2, some .int, [xR false [17], xF], [([xR false [17], xF], some (xF))], [(50, 0)], (2, 49, 0, 0), none)
def xT169 : xTab := ([(7, 17, 0)], [], [], [], [], [], [], [(0, 102, 1, some 17, xM143), (0, 119, 2, some 17, xM162), (0, 133, 3, some 17, xM168)], [], [], [])
set_option maxRecDepth 100000 in
set_option maxHeartbeats 4000000 in
theorem xk169 : x_TOK vwCl x_G x_Zs x_Tb x_Nb xM169 xT169 := by
  intro p l e s m args below meth c D U hx hb hml hts hown hK hK0 hU hnm hN
  have X : x_cx p s m args c D U xM169.2.1 xM169.2.2.1 vwCl x_Tb x_Nb xM169.1.cls := ⟨hx, hb, hml, hown, hts, hK, hK0, hU, hN, x_Tb_good, x_Nb_ok⟩
  exact ⟨(x_cons (fl190 hts) x_nilm), x_nilm, x_nilm, x_nilm, x_nilm, x_nilm, x_nilm, (x_cons (x_cokV (ci := 12) X xm143 rfl rfl rfl (x_cons (x_bw68 3 rfl rfl) (x_cons (x_bw68 5 rfl rfl) (x_cons (x_at 32 (by decide +kernel) rfl) (x_cons (x_bw0 9 rfl rfl) x_nilm)))) (x_bw68 6 rfl rfl) (by decide +kernel) ⟨Nat.le_of_ble_eq_true rfl, Nat.le_of_ble_eq_true rfl⟩) (x_cons (x_cokV (ci := 12) X xm162 rfl rfl rfl (x_cons (x_bw70 3 rfl rfl) (x_cons (x_bw70 5 rfl rfl) (x_cons (x_at 36 (by decide +kernel) rfl) (x_cons (x_bw0 9 rfl rfl) x_nilm)))) (x_bw70 6 rfl rfl) (by decide +kernel) ⟨Nat.le_of_ble_eq_true rfl, Nat.le_of_ble_eq_true rfl⟩) (x_cons (x_cokV (ci := 12) X xm168 rfl rfl rfl (x_cons (x_bw71 7 rfl rfl) (x_cons (x_bw71 9 rfl rfl) (x_cons (x_at 39 (by decide +kernel) rfl) (x_cons (x_bw0 9 rfl rfl) x_nilm)))) (x_bw71 10 rfl rfl) (by decide +kernel) ⟨Nat.le_of_ble_eq_true rfl, Nat.le_of_ble_eq_true rfl⟩) x_nilm))), x_nilm, x_nilm, x_nilm⟩
set_option maxRecDepth 1000000 in
theorem xm169 : x_Met vwCl x_G x_Zs x_Tb x_Nb xM169 := x_main xT169 [] [] 2500 (by decide +kernel) (by decide +kernel) xk169 (by decide +kernel)
/-- TwinFiresModel.in(JJJ)Z -/
def xM170 : xM := (⟨"TwinFiresModel", "in", "(JJJ)Z"⟩, prog_14_method_2_code, 6, some .boolean, [xFL, xL 0 0, xL (-1) 9], [([xL 0 9, xL 0 0, xL 0 9], some (xI 1 1)), ([xFL, xL 0 0, xL (-1) 9], some (xI 0 0))], [], (0, 0, 0, 0), none)
def xT170 : xTab := ([], [], [], [], [], [], [], [], [], [], [])
set_option maxRecDepth 100000 in
set_option maxHeartbeats 4000000 in
theorem xk170 : x_TOK vwCl x_G x_Zs x_Tb x_Nb xM170 xT170 := by
  intro p l e s m args below meth c D U hx hb hml hts hown hK hK0 hU hnm hN
  have X : x_cx p s m args c D U xM170.2.1 xM170.2.2.1 vwCl x_Tb x_Nb xM170.1.cls := ⟨hx, hb, hml, hown, hts, hK, hK0, hU, hN, x_Tb_good, x_Nb_ok⟩
  exact ⟨x_nilm, x_nilm, x_nilm, x_nilm, x_nilm, x_nilm, x_nilm, x_nilm, x_nilm, x_nilm, x_nilm⟩
set_option maxRecDepth 1000000 in
theorem xm170 : x_Met vwCl x_G x_Zs x_Tb x_Nb xM170 := x_main xT170 [] [] 2500 (by decide +kernel) (by decide +kernel) xk170 (by decide +kernel)
/-- TwinFiresModel.isHill(I)Z -/
def xM171 : xM := (⟨"TwinFiresModel", "isHill", "(I)Z"⟩, prog_14_method_13_code, 2, some .boolean, [xR false [17], xF], [([xR false [17], xF], some (xI 0 0)), ([xR false [17], xI 0 9], some (xI 1 1))], [], (1, 25, 0, 0), none)
def xT171 : xTab := ([(7, 17, 0)], [], [], [], [], [], [], [(1, 87, 3, none, xM170)], [], [], [])
set_option maxRecDepth 100000 in
set_option maxHeartbeats 4000000 in
theorem xk171 : x_TOK vwCl x_G x_Zs x_Tb x_Nb xM171 xT171 := by
  intro p l e s m args below meth c D U hx hb hml hts hown hK hK0 hU hnm hN
  have X : x_cx p s m args c D U xM171.2.1 xM171.2.2.1 vwCl x_Tb x_Nb xM171.1.cls := ⟨hx, hb, hml, hown, hts, hK, hK0, hU, hN, x_Tb_good, x_Nb_ok⟩
  exact ⟨(x_cons (fl190 hts) x_nilm), x_nilm, x_nilm, x_nilm, x_nilm, x_nilm, x_nilm, (x_cons (x_cokS X xm170 (x_cons (x_bw67 11 rfl rfl) (x_cons (x_bw67 12 rfl rfl) (x_cons (x_bw0 9 rfl rfl) x_nilm))) (x_bw67 13 rfl rfl) (by decide +kernel) ⟨Nat.le_of_ble_eq_true rfl, Nat.le_of_ble_eq_true rfl⟩) x_nilm), x_nilm, x_nilm, x_nilm⟩
set_option maxRecDepth 1000000 in
theorem xm171 : x_Met vwCl x_G x_Zs x_Tb x_Nb xM171 := x_main xT171 [] [] 2500 (by decide +kernel) (by decide +kernel) xk171 (by decide +kernel)
/-- TwinFiresModel.hides(IIIII)Z -/
def xM172 : xM := (⟨"TwinFiresModel", "hides", "(IIIII)Z"⟩, prog_14_method_27_code, 16, some .boolean, [xR false [17], xI 0 9, xI 0 9, xF, xF, xF], [([xR false [17], xI 0 9, xI 0 9, xF, xF, xF], some (xI 1 1)), ([xR false [17], xI 0 9, xI 0 9, xF, xF, xF], some (xI 0 0))], [], (1, 22, 0, 0), none)
def xT172 : xTab := ([(7, 17, 0)], [], [], [], [], [], [], [(0, 99, 3, some 17, xM145)], [], [], [])
set_option maxRecDepth 100000 in
set_option maxHeartbeats 4000000 in
theorem xk172 : x_TOK vwCl x_G x_Zs x_Tb x_Nb xM172 xT172 := by
  intro p l e s m args below meth c D U hx hb hml hts hown hK hK0 hU hnm hN
  have X : x_cx p s m args c D U xM172.2.1 xM172.2.2.1 vwCl x_Tb x_Nb xM172.1.cls := ⟨hx, hb, hml, hown, hts, hK, hK0, hU, hN, x_Tb_good, x_Nb_ok⟩
  exact ⟨(x_cons (fl190 hts) x_nilm), x_nilm, x_nilm, x_nilm, x_nilm, x_nilm, x_nilm, (x_cons (x_cokV (ci := 12) X xm145 rfl rfl rfl (x_cons (x_bw67 15 rfl rfl) (x_cons (x_bw68 1 rfl rfl) (x_cons (x_at 31 (by decide +kernel) rfl) (x_cons (x_bw0 9 rfl rfl) x_nilm)))) (x_bw68 2 rfl rfl) (by decide +kernel) ⟨Nat.le_of_ble_eq_true rfl, Nat.le_of_ble_eq_true rfl⟩) x_nilm), x_nilm, x_nilm, x_nilm⟩
set_option maxRecDepth 1000000 in
theorem xm172 : x_Met vwCl x_G x_Zs x_Tb x_Nb xM172 := x_main xT172 [] [] 2500 (by decide +kernel) (by decide +kernel) xk172 (by decide +kernel)
/-- TwinFiresModel.isSight(IIII)Z -/
def xM173 : xM := (⟨"TwinFiresModel", "isSight", "(IIII)Z"⟩, prog_14_method_28_code, 7, some .boolean, [xR false [17], xI 0 9, xI 0 9, xF, xF], [([xR false [17], xI 0 9, xI 0 9, xF, xF], some (xI 0 0)), ([xR false [17], xI 0 9, xI 0 9, xF, xF], some (xI 0 1))], [], (2, 57, 0, 0), none)
def xT173 : xTab := ([(7, 17, 0)], [], [], [], [], [], [], [(0, 99, 3, some 17, xM145), (0, 123, 3, some 17, xM163), (0, 133, 3, some 17, xM168), (0, 136, 6, some 17, xM172)], [], [], [])
set_option maxRecDepth 100000 in
set_option maxHeartbeats 4000000 in
theorem xk173 : x_TOK vwCl x_G x_Zs x_Tb x_Nb xM173 xT173 := by
  intro p l e s m args below meth c D U hx hb hml hts hown hK hK0 hU hnm hN
  have X : x_cx p s m args c D U xM173.2.1 xM173.2.2.1 vwCl x_Tb x_Nb xM173.1.cls := ⟨hx, hb, hml, hown, hts, hK, hK0, hU, hN, x_Tb_good, x_Nb_ok⟩
  exact ⟨(x_cons (fl190 hts) x_nilm), x_nilm, x_nilm, x_nilm, x_nilm, x_nilm, x_nilm, (x_cons (x_cokV (ci := 12) X xm145 rfl rfl rfl (x_cons (x_bw67 15 rfl rfl) (x_cons (x_bw68 1 rfl rfl) (x_cons (x_at 31 (by decide +kernel) rfl) (x_cons (x_bw0 9 rfl rfl) x_nilm)))) (x_bw68 2 rfl rfl) (by decide +kernel) ⟨Nat.le_of_ble_eq_true rfl, Nat.le_of_ble_eq_true rfl⟩) (x_cons (x_cokV (ci := 12) X xm163 rfl rfl rfl (x_cons (x_bw70 7 rfl rfl) (x_cons (x_bw70 9 rfl rfl) (x_cons (x_at 37 (by decide +kernel) rfl) (x_cons (x_bw0 9 rfl rfl) x_nilm)))) (x_bw70 10 rfl rfl) (by decide +kernel) ⟨Nat.le_of_ble_eq_true rfl, Nat.le_of_ble_eq_true rfl⟩) (x_cons (x_cokV (ci := 12) X xm168 rfl rfl rfl (x_cons (x_bw71 7 rfl rfl) (x_cons (x_bw71 9 rfl rfl) (x_cons (x_at 39 (by decide +kernel) rfl) (x_cons (x_bw0 9 rfl rfl) x_nilm)))) (x_bw71 10 rfl rfl) (by decide +kernel) ⟨Nat.le_of_ble_eq_true rfl, Nat.le_of_ble_eq_true rfl⟩) (x_cons (x_cokV (ci := 12) X xm172 rfl rfl rfl (x_cons (x_bw72 10 rfl rfl) (x_cons (x_bw72 12 rfl rfl) (x_cons (x_at 42 (by decide +kernel) rfl) (x_cons (x_bw0 9 rfl rfl) x_nilm)))) (x_bw72 13 rfl rfl) (by decide +kernel) ⟨Nat.le_of_ble_eq_true rfl, Nat.le_of_ble_eq_true rfl⟩) x_nilm)))), x_nilm, x_nilm, x_nilm⟩
set_option maxRecDepth 1000000 in
theorem xm173 : x_Met vwCl x_G x_Zs x_Tb x_Nb xM173 := x_main xT173 [(32, ([(0, xR false [17]), (1, xI 0 9), (2, xI 0 9), (3, xF), (4, xF), (5, xI 0 1), (6, xI 0 10)], [], []), (6, true), [], false, 0, []), (106, ([(0, xR false [17]), (1, xI 0 9), (2, xI 0 9), (3, xF), (4, xF), (5, xI 0 1), (6, xI 0 8)], [], [(0, 12, 0, xR false [46])]), (6, true), [], false, 0, [])] [] 2500 (by decide +kernel) (by decide +kernel) xk173 (by decide +kernel)
/-- TwinFiresModel.sight(II)I -/
def xM174 : xM := (⟨"TwinFiresModel", "sight", "(II)I"⟩, prog_14_method_32_code, 3, some .int, [xR false [17], xF, xF], [([xR false [17], xF, xF], some (xF))], [(50, 0)], (3, 83, 0, 0), none)
def xT174 : xTab := ([(7, 17, 0)], [], [], [], [], [], [], [(0, 102, 1, some 17, xM143), (0, 140, 5, some 17, xM173), (0, 151, 2, some 17, xM171)], [], [], [])
set_option maxRecDepth 100000 in
set_option maxHeartbeats 4000000 in
theorem xk174 : x_TOK vwCl x_G x_Zs x_Tb x_Nb xM174 xT174 := by
  intro p l e s m args below meth c D U hx hb hml hts hown hK hK0 hU hnm hN
  have X : x_cx p s m args c D U xM174.2.1 xM174.2.2.1 vwCl x_Tb x_Nb xM174.1.cls := ⟨hx, hb, hml, hown, hts, hK, hK0, hU, hN, x_Tb_good, x_Nb_ok⟩
  exact ⟨(x_cons (fl190 hts) x_nilm), x_nilm, x_nilm, x_nilm, x_nilm, x_nilm, x_nilm, (x_cons (x_cokV (ci := 12) X xm143 rfl rfl rfl (x_cons (x_bw68 3 rfl rfl) (x_cons (x_bw68 5 rfl rfl) (x_cons (x_at 32 (by decide +kernel) rfl) (x_cons (x_bw0 9 rfl rfl) x_nilm)))) (x_bw68 6 rfl rfl) (by decide +kernel) ⟨Nat.le_of_ble_eq_true rfl, Nat.le_of_ble_eq_true rfl⟩) (x_cons (x_cokV (ci := 12) X xm173 rfl rfl rfl (x_cons (x_bw72 6 rfl rfl) (x_cons (x_bw72 8 rfl rfl) (x_cons (x_at 41 (by decide +kernel) rfl) (x_cons (x_bw0 9 rfl rfl) x_nilm)))) (x_bw72 9 rfl rfl) (by decide +kernel) ⟨Nat.le_of_ble_eq_true rfl, Nat.le_of_ble_eq_true rfl⟩) (x_cons (x_cokV (ci := 12) X xm171 rfl rfl rfl (x_cons (x_bw72 2 rfl rfl) (x_cons (x_bw72 4 rfl rfl) (x_cons (x_at 40 (by decide +kernel) rfl) (x_cons (x_bw0 9 rfl rfl) x_nilm)))) (x_bw72 5 rfl rfl) (by decide +kernel) ⟨Nat.le_of_ble_eq_true rfl, Nat.le_of_ble_eq_true rfl⟩) x_nilm))), x_nilm, x_nilm, x_nilm⟩
set_option maxRecDepth 1000000 in
theorem xm174 : x_Met vwCl x_G x_Zs x_Tb x_Nb xM174 := x_main xT174 [] [] 2500 (by decide +kernel) (by decide +kernel) xk174 (by decide +kernel)
/-- TwinFiresModel.in(JJJ)Z -/
def xM175 : xM := (⟨"TwinFiresModel", "in", "(JJJ)Z"⟩, prog_14_method_2_code, 6, some .boolean, [xFL, xL 1 1, xL 8 8], [([xL 1 8, xL 1 1, xL 8 8], some (xI 1 1)), ([xFL, xL 1 1, xL 8 8], some (xI 0 0))], [], (0, 0, 0, 0), none)
def xT175 : xTab := ([], [], [], [], [], [], [], [], [], [], [])
set_option maxRecDepth 100000 in
set_option maxHeartbeats 4000000 in
theorem xk175 : x_TOK vwCl x_G x_Zs x_Tb x_Nb xM175 xT175 := by
  intro p l e s m args below meth c D U hx hb hml hts hown hK hK0 hU hnm hN
  have X : x_cx p s m args c D U xM175.2.1 xM175.2.2.1 vwCl x_Tb x_Nb xM175.1.cls := ⟨hx, hb, hml, hown, hts, hK, hK0, hU, hN, x_Tb_good, x_Nb_ok⟩
  exact ⟨x_nilm, x_nilm, x_nilm, x_nilm, x_nilm, x_nilm, x_nilm, x_nilm, x_nilm, x_nilm, x_nilm⟩
set_option maxRecDepth 1000000 in
theorem xm175 : x_Met vwCl x_G x_Zs x_Tb x_Nb xM175 := x_main xT175 [] [] 2500 (by decide +kernel) (by decide +kernel) xk175 (by decide +kernel)
/-- TwinFiresModel.clearText()I -/
def xM176 : xM := (⟨"TwinFiresModel", "clearText", "()I"⟩, prog_14_method_35_code, 2, some .int, [xR false [17]], [([xR false [17]], some (xI 0 240))], [(17, 10)], (0, 0, 0, 0), none)
def xT176 : xTab := ([(160, 17, 10)], [(160, 17, 10)], [], [], [], [], [], [], [], [], [])
set_option maxRecDepth 100000 in
set_option maxHeartbeats 4000000 in
theorem xk176 : x_TOK vwCl x_G x_Zs x_Tb x_Nb xM176 xT176 := by
  intro p l e s m args below meth c D U hx hb hml hts hown hK hK0 hU hnm hN
  have X : x_cx p s m args c D U xM176.2.1 xM176.2.2.1 vwCl x_Tb x_Nb xM176.1.cls := ⟨hx, hb, hml, hown, hts, hK, hK0, hU, hN, x_Tb_good, x_Nb_ok⟩
  exact ⟨(x_cons (fl193 hts) x_nilm), (x_cons (fw194 hts) x_nilm), x_nilm, x_nilm, x_nilm, x_nilm, x_nilm, x_nilm, x_nilm, x_nilm, x_nilm⟩
set_option maxRecDepth 1000000 in
theorem xm176 : x_Met vwCl x_G x_Zs x_Tb x_Nb xM176 := x_main xT176 [] [] 2500 (by decide +kernel) (by decide +kernel) xk176 (by decide +kernel)
/-- TwinFiresModel.in(JJJ)Z -/
def xM177 : xM := (⟨"TwinFiresModel", "in", "(JJJ)Z"⟩, prog_14_method_2_code, 6, some .boolean, [xFL, xL (-2147483648) 2147483647, xL (-2147483648) 2147483647], [([xL (-2147483648) 2147483647, xL (-2147483648) 2147483647, xL (-2147483648) 2147483647], some (xI 1 1)), ([xFL, xL (-2147483648) 2147483647, xL (-2147483648) 2147483647], some (xI 0 0))], [], (0, 0, 0, 0), none)
def xT177 : xTab := ([], [], [], [], [], [], [], [], [], [], [])
set_option maxRecDepth 100000 in
set_option maxHeartbeats 4000000 in
theorem xk177 : x_TOK vwCl x_G x_Zs x_Tb x_Nb xM177 xT177 := by
  intro p l e s m args below meth c D U hx hb hml hts hown hK hK0 hU hnm hN
  have X : x_cx p s m args c D U xM177.2.1 xM177.2.2.1 vwCl x_Tb x_Nb xM177.1.cls := ⟨hx, hb, hml, hown, hts, hK, hK0, hU, hN, x_Tb_good, x_Nb_ok⟩
  exact ⟨x_nilm, x_nilm, x_nilm, x_nilm, x_nilm, x_nilm, x_nilm, x_nilm, x_nilm, x_nilm, x_nilm⟩
set_option maxRecDepth 1000000 in
theorem xm177 : x_Met vwCl x_G x_Zs x_Tb x_Nb xM177 := x_main xT177 [] [] 2500 (by decide +kernel) (by decide +kernel) xk177 (by decide +kernel)
/-- TwinFiresModel.isAt(II)Z -/
def xM178 : xM := (⟨"TwinFiresModel", "isAt", "(II)Z"⟩, prog_14_method_36_code, 3, some .boolean, [xR false [17], xF, xF], [([xR false [17], xF, xF], some (xI 0 0)), ([xR false [17], xF, xF], some (xI 1 1))], [], (1, 25, 0, 0), none)
def xT178 : xTab := ([(29, 17, 9), (160, 17, 10), (166, 17, 11)], [], [], [], [], [], [], [(1, 87, 3, none, xM177)], [], [], [])
set_option maxRecDepth 100000 in
set_option maxHeartbeats 4000000 in
theorem xk178 : x_TOK vwCl x_G x_Zs x_Tb x_Nb xM178 xT178 := by
  intro p l e s m args below meth c D U hx hb hml hts hown hK hK0 hU hnm hN
  have X : x_cx p s m args c D U xM178.2.1 xM178.2.2.1 vwCl x_Tb x_Nb xM178.1.cls := ⟨hx, hb, hml, hown, hts, hK, hK0, hU, hN, x_Tb_good, x_Nb_ok⟩
  exact ⟨(x_cons (fl195 hts) (x_cons (fl193 hts) (x_cons (fl196 hts) x_nilm))), x_nilm, x_nilm, x_nilm, x_nilm, x_nilm, x_nilm, (x_cons (x_cokS X xm177 (x_cons (x_bw67 11 rfl rfl) (x_cons (x_bw67 12 rfl rfl) (x_cons (x_bw0 9 rfl rfl) x_nilm))) (x_bw67 13 rfl rfl) (by decide +kernel) ⟨Nat.le_of_ble_eq_true rfl, Nat.le_of_ble_eq_true rfl⟩) x_nilm), x_nilm, x_nilm, x_nilm⟩
set_option maxRecDepth 1000000 in
theorem xm178 : x_Met vwCl x_G x_Zs x_Tb x_Nb xM178 := x_main xT178 [] [] 2500 (by decide +kernel) (by decide +kernel) xk178 (by decide +kernel)
/-- TwinFiresModel.wordOf(J)I -/
def xM179 : xM := (⟨"TwinFiresModel", "wordOf", "(J)I"⟩, prog_14_method_37_code, 4, some .int, [xFL], [([xFL], some (xI 1 32))], [], (0, 0, 0, 0), none)
def xT179 : xTab := ([], [], [], [], [], [], [(169, 20594117), (171, 769508), (173, 533957), (175, 8556773), (177, 687358116), (179, 755084), (181, 824370), (183, 435828), (185, 763013), (187, 271756)], [], [], [], [])
set_option maxRecDepth 100000 in
set_option maxHeartbeats 4000000 in
theorem xk179 : x_TOK vwCl x_G x_Zs x_Tb x_Nb xM179 xT179 := by
  intro p l e s m args below meth c D U hx hb hml hts hown hK hK0 hU hnm hN
  have X : x_cx p s m args c D U xM179.2.1 xM179.2.2.1 vwCl x_Tb x_Nb xM179.1.cls := ⟨hx, hb, hml, hown, hts, hK, hK0, hU, hN, x_Tb_good, x_Nb_ok⟩
  exact ⟨x_nilm, x_nilm, x_nilm, x_nilm, x_nilm, x_nilm, (x_cons ⟨20594117, rfl, (hts _ (x_bw75 8 rfl rfl))⟩ (x_cons ⟨769508, rfl, (hts _ (x_bw75 9 rfl rfl))⟩ (x_cons ⟨533957, rfl, (hts _ (x_bw75 10 rfl rfl))⟩ (x_cons ⟨8556773, rfl, (hts _ (x_bw75 11 rfl rfl))⟩ (x_cons ⟨687358116, rfl, (hts _ (x_bw75 12 rfl rfl))⟩ (x_cons ⟨755084, rfl, (hts _ (x_bw75 13 rfl rfl))⟩ (x_cons ⟨824370, rfl, (hts _ (x_bw75 14 rfl rfl))⟩ (x_cons ⟨435828, rfl, (hts _ (x_bw75 15 rfl rfl))⟩ (x_cons ⟨763013, rfl, (hts _ (x_bw76 0 rfl rfl))⟩ (x_cons ⟨271756, rfl, (hts _ (x_bw76 1 rfl rfl))⟩ x_nilm)))))))))), x_nilm, x_nilm, x_nilm, x_nilm⟩
set_option maxRecDepth 1000000 in
theorem xm179 : x_Met vwCl x_G x_Zs x_Tb x_Nb xM179 := x_main xT179 [] [] 2500 (by decide +kernel) (by decide +kernel) xk179 (by decide +kernel)
/-- TwinFiresModel.numbers(I)I -/
def xM180 : xM := (⟨"TwinFiresModel", "numbers", "(I)I"⟩, prog_14_method_39_code, 1, some .int, [xF], [([xF], some (xI 1 4))], [], (0, 0, 0, 0), none)
def xT180 : xTab := ([], [], [], [], [], [], [], [], [], [], [])
set_option maxRecDepth 100000 in
set_option maxHeartbeats 4000000 in
theorem xk180 : x_TOK vwCl x_G x_Zs x_Tb x_Nb xM180 xT180 := by
  intro p l e s m args below meth c D U hx hb hml hts hown hK hK0 hU hnm hN
  have X : x_cx p s m args c D U xM180.2.1 xM180.2.2.1 vwCl x_Tb x_Nb xM180.1.cls := ⟨hx, hb, hml, hown, hts, hK, hK0, hU, hN, x_Tb_good, x_Nb_ok⟩
  exact ⟨x_nilm, x_nilm, x_nilm, x_nilm, x_nilm, x_nilm, x_nilm, x_nilm, x_nilm, x_nilm, x_nilm⟩
set_option maxRecDepth 1000000 in
theorem xm180 : x_Met vwCl x_G x_Zs x_Tb x_Nb xM180 := x_main xT180 [] [] 2500 (by decide +kernel) (by decide +kernel) xk180 (by decide +kernel)
