/-- TwinFiresModel.thing(IIIII)I -/
def xM152 : xM := (⟨"TwinFiresModel", "thing", "(IIIII)I"⟩, prog_14_method_20_code, 8, some .int, [xR false [17], xF, xF, xF, xF, xF], [([xR false [17], xF, xF, xF, xF, xF], some (xF))], [(46, 0), (50, 0)], (2, 42, 0, 0), none)
/-- TwinFiresModel.put(II)I -/
def xM159 : xM := (⟨"TwinFiresModel", "put", "(II)I"⟩, prog_14_method_21_code, 4, some .int, [xR false [17], xF, xF], [([xR false [17], xF, xF], some (xF))], [(46, 0), (50, 0)], (2, 42, 0, 0), none)
/-- TwinFiresModel.puts(II)I -/
def xM160 : xM := (⟨"TwinFiresModel", "puts", "(II)I"⟩, prog_14_method_9_code, 4, some .int, [xR false [17], xI 3 159, xF], [([xR false [17], xI 3 159, xF], some (xF))], [(46, 0)], (0, 0, 0, 0), none)
/-- TwinFiresModel.in(JJJ)Z -/
def xM161 : xM := (⟨"TwinFiresModel", "in", "(JJJ)Z"⟩, prog_14_method_2_code, 6, some .boolean, [xFL, xL 0 0, xL (-1) 7], [([xL 0 7, xL 0 0, xL 0 7], some (xI 1 1)), ([xFL, xL 0 0, xL (-1) 7], some (xI 0 0))], [], (0, 0, 0, 0), none)
def xT161 : xTab := ([], [], [], [], [], [], [], [], [], [], [])
set_option maxRecDepth 100000 in
set_option maxHeartbeats 4000000 in
theorem xk161 : x_TOK vwCl x_G x_Zs x_Tb x_Nb xM161 xT161 := by
  intro p l e s m args below meth c D U hx hb hml hts hown hK hK0 hU hnm hN
  have X : x_cx p s m args c D U xM161.2.1 xM161.2.2.1 vwCl x_Tb x_Nb xM161.1.cls := ⟨hx, hb, hml, hown, hts, hK, hK0, hU, hN, x_Tb_good, x_Nb_ok⟩
  exact ⟨x_nilm, x_nilm, x_nilm, x_nilm, x_nilm, x_nilm, x_nilm, x_nilm, x_nilm, x_nilm, x_nilm⟩
set_option maxRecDepth 1000000 in
theorem xm161 : x_Met vwCl x_G x_Zs x_Tb x_Nb xM161 := x_main xT161 [] [] 2500 (by decide +kernel) (by decide +kernel) xk161 (by decide +kernel)
/-- TwinFiresModel.isThing(I)Z -/
def xM162 : xM := (⟨"TwinFiresModel", "isThing", "(I)Z"⟩, prog_14_method_14_code, 2, some .boolean, [xR false [17], xF], [([xR false [17], xF], some (xI 0 0)), ([xR false [17], xI 0 7], some (xI 1 1))], [], (1, 25, 0, 0), none)
def xT162 : xTab := ([(7, 17, 0)], [], [], [], [], [], [], [(1, 87, 3, none, xM161)], [], [], [])
set_option maxRecDepth 100000 in
set_option maxHeartbeats 4000000 in
theorem xk162 : x_TOK vwCl x_G x_Zs x_Tb x_Nb xM162 xT162 := by
  intro p l e s m args below meth c D U hx hb hml hts hown hK hK0 hU hnm hN
  have X : x_cx p s m args c D U xM162.2.1 xM162.2.2.1 vwCl x_Tb x_Nb xM162.1.cls := ⟨hx, hb, hml, hown, hts, hK, hK0, hU, hN, x_Tb_good, x_Nb_ok⟩
  exact ⟨(x_cons (fl190 hts) x_nilm), x_nilm, x_nilm, x_nilm, x_nilm, x_nilm, x_nilm, (x_cons (x_cokS X xm161 (x_cons (x_bw67 11 rfl rfl) (x_cons (x_bw67 12 rfl rfl) (x_cons (x_bw0 9 rfl rfl) x_nilm))) (x_bw67 13 rfl rfl) (by decide +kernel) ⟨Nat.le_of_ble_eq_true rfl, Nat.le_of_ble_eq_true rfl⟩) x_nilm), x_nilm, x_nilm, x_nilm⟩
set_option maxRecDepth 1000000 in
theorem xm162 : x_Met vwCl x_G x_Zs x_Tb x_Nb xM162 := x_main xT162 [] [] 2500 (by decide +kernel) (by decide +kernel) xk162 (by decide +kernel)
/-- TwinFiresModel.ofThing(II)I -/
def xM163 : xM := (⟨"TwinFiresModel", "ofThing", "(II)I"⟩, prog_14_method_18_code, 3, some .int, [xR false [17], xI 0 7, xI 0 6], [([xR false [17], xI 0 7, xI 0 6], some (xF))], [], (0, 0, 0, 0), none)
def xT163 : xTab := ([(7, 17, 0)], [], [], [], [], [], [], [], [], [], [])
set_option maxRecDepth 100000 in
set_option maxHeartbeats 4000000 in
theorem xk163 : x_TOK vwCl x_G x_Zs x_Tb x_Nb xM163 xT163 := by
  intro p l e s m args below meth c D U hx hb hml hts hown hK hK0 hU hnm hN
  have X : x_cx p s m args c D U xM163.2.1 xM163.2.2.1 vwCl x_Tb x_Nb xM163.1.cls := ⟨hx, hb, hml, hown, hts, hK, hK0, hU, hN, x_Tb_good, x_Nb_ok⟩
  exact ⟨(x_cons (fl190 hts) x_nilm), x_nilm, x_nilm, x_nilm, x_nilm, x_nilm, x_nilm, x_nilm, x_nilm, x_nilm, x_nilm⟩
set_option maxRecDepth 1000000 in
theorem xm163 : x_Met vwCl x_G x_Zs x_Tb x_Nb xM163 := x_main xT163 [] [] 2500 (by decide +kernel) (by decide +kernel) xk163 (by decide +kernel)
/-- TwinFiresModel.no()I -/
def xM164 : xM := (⟨"TwinFiresModel", "no", "()I"⟩, prog_14_method_7_code, 1, some .int, [xR false [17]], [([xR false [17]], some (xF))], [(50, 0)], (1, 22, 0, 0), none)
def xT164 : xTab := ([], [], [], [], [], [], [], [(0, 76, 3, some 17, xM142)], [], [], [])
set_option maxRecDepth 100000 in
set_option maxHeartbeats 4000000 in
theorem xk164 : x_TOK vwCl x_G x_Zs x_Tb x_Nb xM164 xT164 := by
  intro p l e s m args below meth c D U hx hb hml hts hown hK hK0 hU hnm hN
  have X : x_cx p s m args c D U xM164.2.1 xM164.2.2.1 vwCl x_Tb x_Nb xM164.1.cls := ⟨hx, hb, hml, hown, hts, hK, hK0, hU, hN, x_Tb_good, x_Nb_ok⟩
  exact ⟨x_nilm, x_nilm, x_nilm, x_nilm, x_nilm, x_nilm, x_nilm, (x_cons (x_cokV (ci := 12) X xm142 rfl rfl rfl (x_cons (x_bw68 7 rfl rfl) (x_cons (x_bw68 9 rfl rfl) (x_cons (x_at 33 (by decide +kernel) rfl) (x_cons (x_bw0 9 rfl rfl) x_nilm)))) (x_bw68 10 rfl rfl) (by decide +kernel) ⟨Nat.le_of_ble_eq_true rfl, Nat.le_of_ble_eq_true rfl⟩) x_nilm), x_nilm, x_nilm, x_nilm⟩
set_option maxRecDepth 1000000 in
theorem xm164 : x_Met vwCl x_G x_Zs x_Tb x_Nb xM164 := x_main xT164 [] [] 2500 (by decide +kernel) (by decide +kernel) xk164 (by decide +kernel)
/-- TwinFiresModel.work(IZ)I -/
def xM165 : xM := (⟨"TwinFiresModel", "work", "(IZ)I"⟩, prog_14_method_22_code, 3, some .int, [xR false [17], xF, xI 0 1], [([xR false [17], xF, xI 0 1], some (xF))], [(46, 0), (50, 0)], (2, 46, 0, 0), none)
/-- TwinFiresModel.cost(II)I -/
def xM166 : xM := (⟨"TwinFiresModel", "cost", "(II)I"⟩, prog_14_method_23_code, 3, some .int, [xR false [17], xF, xF], [([xR false [17], xF, xF], some (xF))], [(46, 0), (50, 0)], (2, 46, 0, 0), none)
/-- TwinFiresModel.most99(I)I -/
def xM167 : xM := (⟨"TwinFiresModel", "most99", "(I)I"⟩, prog_14_method_24_code, 1, some .int, [xF], [([xF], some (xI (-2147483648) 99))], [], (0, 0, 0, 0), none)
def xT167 : xTab := ([], [], [], [], [], [], [], [], [], [], [])
set_option maxRecDepth 100000 in
set_option maxHeartbeats 4000000 in
theorem xk167 : x_TOK vwCl x_G x_Zs x_Tb x_Nb xM167 xT167 := by
  intro p l e s m args below meth c D U hx hb hml hts hown hK hK0 hU hnm hN
  have X : x_cx p s m args c D U xM167.2.1 xM167.2.2.1 vwCl x_Tb x_Nb xM167.1.cls := ⟨hx, hb, hml, hown, hts, hK, hK0, hU, hN, x_Tb_good, x_Nb_ok⟩
  exact ⟨x_nilm, x_nilm, x_nilm, x_nilm, x_nilm, x_nilm, x_nilm, x_nilm, x_nilm, x_nilm, x_nilm⟩
set_option maxRecDepth 1000000 in
theorem xm167 : x_Met vwCl x_G x_Zs x_Tb x_Nb xM167 := x_main xT167 [] [] 2500 (by decide +kernel) (by decide +kernel) xk167 (by decide +kernel)
/-- TwinFiresModel.highIn(II)I -/
def xM168 : xM := (⟨"TwinFiresModel", "highIn", "(II)I"⟩, prog_14_method_25_code, 8, some .int, [xR false [17], xI 0 7, xF], [([xR false [17], xI 0 7, xF], some (xF))], [], (1, 22, 0, 0), none)
def xT168 : xTab := ([], [], [], [], [], [], [], [(1, 129, 1, none, xM167), (0, 123, 3, some 17, xM163)], [], [], [])
set_option maxRecDepth 100000 in
set_option maxHeartbeats 4000000 in
theorem xk168 : x_TOK vwCl x_G x_Zs x_Tb x_Nb xM168 xT168 := by
  intro p l e s m args below meth c D U hx hb hml hts hown hK hK0 hU hnm hN
  have X : x_cx p s m args c D U xM168.2.1 xM168.2.2.1 vwCl x_Tb x_Nb xM168.1.cls := ⟨hx, hb, hml, hown, hts, hK, hK0, hU, hN, x_Tb_good, x_Nb_ok⟩
  exact ⟨x_nilm, x_nilm, x_nilm, x_nilm, x_nilm, x_nilm, x_nilm, (x_cons (x_cokS X xm167 (x_cons (x_bw71 11 rfl rfl) (x_cons (x_bw71 12 rfl rfl) (x_cons (x_bw0 9 rfl rfl) x_nilm))) (x_bw71 13 rfl rfl) (by decide +kernel) ⟨Nat.le_of_ble_eq_true rfl, Nat.le_of_ble_eq_true rfl⟩) (x_cons (x_cokV (ci := 12) X xm163 rfl rfl rfl (x_cons (x_bw70 7 rfl rfl) (x_cons (x_bw70 9 rfl rfl) (x_cons (x_at 37 (by decide +kernel) rfl) (x_cons (x_bw0 9 rfl rfl) x_nilm)))) (x_bw70 10 rfl rfl) (by decide +kernel) ⟨Nat.le_of_ble_eq_true rfl, Nat.le_of_ble_eq_true rfl⟩) x_nilm)), x_nilm, x_nilm, x_nilm⟩
set_option maxRecDepth 1000000 in
theorem xm168 : x_Met vwCl x_G x_Zs x_Tb x_Nb xM168 := x_main xT168 [] [] 2500 (by decide +kernel) (by decide +kernel) xk168 (by decide +kernel)
/-- TwinFiresModel.high(I)I -/
def xM169 : xM := (⟨"TwinFiresModel", "high", "(I)I"⟩, prog_14_method_26_code, 2, some .int, [xR false [17], xF], [([xR false [17], xF], some (xF))], [(50, 0)], (2, 49, 0, 0), none)
def xT169 : xTab := ([(7, 17, 0)], [], [], [], [], [], [], [(0, 102, 1, some 17, xM143), (0, 119, 2, some 17, xM162), (0, 133, 3, some 17, xM168)], [], [], [])
set_option maxRecDepth 100000 in
set_option maxHeartbeats 4000000 in
theorem xk169 : x_TOK vwCl x_G x_Zs x_Tb x_Nb xM169 xT169 := by
  intro p l e s m args below meth c D U hx hb hml hts hown hK hK0 hU hnm hN
  have X : x_cx p s m args c D U xM169.2.1 xM169.2.2.1 vwCl x_Tb x_Nb xM169.1.cls := ⟨hx, hb, hml, hown, hts, hK, hK0, hU, hN, x_Tb_good, x_Nb_ok⟩
  exact ⟨(x_cons (fl190 hts) x_nilm), x_nilm, x_nilm, x_nilm, x_nilm, x_nilm, x_nilm, (x_cons (x_cokV (ci := 12) X xm143 rfl rfl rfl (x_cons (x_bw68 3 rfl rfl) (x_cons (x_bw68 5 rfl rfl) (x_cons (x_at 32 (by decide +kernel) rfl) (x_cons (x_bw0 9 rfl rfl) x_nilm)))) (x_bw68 6 rfl rfl) (by decide +kernel) ⟨Nat.le_of_ble_eq_true rfl, Nat.le_of_ble_eq_true rfl⟩) (x_cons (x_cokV (ci := 12) X xm162 rfl rfl rfl (x_cons (x_bw70 3 rfl rfl) (x_cons (x_bw70 5 rfl rfl) (x_cons (x_at 36 (by decide +kernel) rfl) (x_cons (x_bw0 9 rfl rfl) x_nilm)))) (x_bw70 6 rfl rfl) (by decide +kernel) ⟨Nat.le_of_ble_eq_true rfl, Nat.le_of_ble_eq_true rfl⟩) (x_cons (x_cokV (ci := 12) X xm168 rfl rfl rfl (x_cons (x_bw71 7 rfl rfl) (x_cons (x_bw71 9 rfl rfl) (x_cons (x_at 39 (by decide +kernel) rfl) (x_cons (x_bw0 9 rfl rfl) x_nilm)))) (x_bw71 10 rfl rfl) (by decide +kernel) ⟨Nat.le_of_ble_eq_true rfl, Nat.le_of_ble_eq_true rfl⟩) x_nilm))), x_nilm, x_nilm, x_nilm⟩
set_option maxRecDepth 1000000 in
theorem xm169 : x_Met vwCl x_G x_Zs x_Tb x_Nb xM169 := x_main xT169 [] [] 2500 (by decide +kernel) (by decide +kernel) xk169 (by decide +kernel)
/-- TwinFiresModel.in(JJJ)Z -/
def xM170 : xM := (⟨"TwinFiresModel", "in", "(JJJ)Z"⟩, prog_14_method_2_code, 6, some .boolean, [xFL, xL 0 0, xL (-1) 9], [([xL 0 9, xL 0 0, xL 0 9], some (xI 1 1)), ([xFL, xL 0 0, xL (-1) 9], some (xI 0 0))], [], (0, 0, 0, 0), none)
def xT170 : xTab := ([], [], [], [], [], [], [], [], [], [], [])
set_option maxRecDepth 100000 in
set_option maxHeartbeats 4000000 in
theorem xk170 : x_TOK vwCl x_G x_Zs x_Tb x_Nb xM170 xT170 := by
  intro p l e s m args below meth c D U hx hb hml hts hown hK hK0 hU hnm hN
  have X : x_cx p s m args c D U xM170.2.1 xM170.2.2.1 vwCl x_Tb x_Nb xM170.1.cls := ⟨hx, hb, hml, hown, hts, hK, hK0, hU, hN, x_Tb_good, x_Nb_ok⟩
  exact ⟨x_nilm, x_nilm, x_nilm, x_nilm, x_nilm, x_nilm, x_nilm, x_nilm, x_nilm, x_nilm, x_nilm⟩
set_option maxRecDepth 1000000 in
theorem xm170 : x_Met vwCl x_G x_Zs x_Tb x_Nb xM170 := x_main xT170 [] [] 2500 (by decide +kernel) (by decide +kernel) xk170 (by decide +kernel)
/-- TwinFiresModel.isHill(I)Z -/
def xM171 : xM := (⟨"TwinFiresModel", "isHill", "(I)Z"⟩, prog_14_method_13_code, 2, some .boolean, [xR false [17], xF], [([xR false [17], xF], some (xI 0 0)), ([xR false [17], xI 0 9], some (xI 1 1))], [], (1, 25, 0, 0), none)
def xT171 : xTab := ([(7, 17, 0)], [], [], [], [], [], [], [(1, 87, 3, none, xM170)], [], [], [])
set_option maxRecDepth 100000 in
set_option maxHeartbeats 4000000 in
theorem xk171 : x_TOK vwCl x_G x_Zs x_Tb x_Nb xM171 xT171 := by
  intro p l e s m args below meth c D U hx hb hml hts hown hK hK0 hU hnm hN
  have X : x_cx p s m args c D U xM171.2.1 xM171.2.2.1 vwCl x_Tb x_Nb xM171.1.cls := ⟨hx, hb, hml, hown, hts, hK, hK0, hU, hN, x_Tb_good, x_Nb_ok⟩
  exact ⟨(x_cons (fl190 hts) x_nilm), x_nilm, x_nilm, x_nilm, x_nilm, x_nilm, x_nilm, (x_cons (x_cokS X xm170 (x_cons (x_bw67 11 rfl rfl) (x_cons (x_bw67 12 rfl rfl) (x_cons (x_bw0 9 rfl rfl) x_nilm))) (x_bw67 13 rfl rfl) (by decide +kernel) ⟨Nat.le_of_ble_eq_true rfl, Nat.le_of_ble_eq_true rfl⟩) x_nilm), x_nilm, x_nilm, x_nilm⟩
set_option maxRecDepth 1000000 in
theorem xm171 : x_Met vwCl x_G x_Zs x_Tb x_Nb xM171 := x_main xT171 [] [] 2500 (by decide +kernel) (by decide +kernel) xk171 (by decide +kernel)
/-- TwinFiresModel.hides(IIIII)Z -/
def xM172 : xM := (⟨"TwinFiresModel", "hides", "(IIIII)Z"⟩, prog_14_method_27_code, 16, some .boolean, [xR false [17], xI 0 9, xI 0 9, xF, xF, xF], [([xR false [17], xI 0 9, xI 0 9, xF, xF, xF], some (xI 1 1)), ([xR false [17], xI 0 9, xI 0 9, xF, xF, xF], some (xI 0 0))], [], (1, 22, 0, 0), none)
def xT172 : xTab := ([(7, 17, 0)], [], [], [], [], [], [], [(0, 99, 3, some 17, xM145)], [], [], [])
set_option maxRecDepth 100000 in
set_option maxHeartbeats 4000000 in
theorem xk172 : x_TOK vwCl x_G x_Zs x_Tb x_Nb xM172 xT172 := by
  intro p l e s m args below meth c D U hx hb hml hts hown hK hK0 hU hnm hN
  have X : x_cx p s m args c D U xM172.2.1 xM172.2.2.1 vwCl x_Tb x_Nb xM172.1.cls := ⟨hx, hb, hml, hown, hts, hK, hK0, hU, hN, x_Tb_good, x_Nb_ok⟩
  exact ⟨(x_cons (fl190 hts) x_nilm), x_nilm, x_nilm, x_nilm, x_nilm, x_nilm, x_nilm, (x_cons (x_cokV (ci := 12) X xm145 rfl rfl rfl (x_cons (x_bw67 15 rfl rfl) (x_cons (x_bw68 1 rfl rfl) (x_cons (x_at 31 (by decide +kernel) rfl) (x_cons (x_bw0 9 rfl rfl) x_nilm)))) (x_bw68 2 rfl rfl) (by decide +kernel) ⟨Nat.le_of_ble_eq_true rfl, Nat.le_of_ble_eq_true rfl⟩) x_nilm), x_nilm, x_nilm, x_nilm⟩
set_option maxRecDepth 1000000 in
theorem xm172 : x_Met vwCl x_G x_Zs x_Tb x_Nb xM172 := x_main xT172 [] [] 2500 (by decide +kernel) (by decide +kernel) xk172 (by decide +kernel)
/-- TwinFiresModel.isSight(IIII)Z -/
def xM173 : xM := (⟨"TwinFiresModel", "isSight", "(IIII)Z"⟩, prog_14_method_28_code, 7, some .boolean, [xR false [17], xI 0 9, xI 0 9, xF, xF], [([xR false [17], xI 0 9, xI 0 9, xF, xF], some (xI 0 0)), ([xR false [17], xI 0 9, xI 0 9, xF, xF], some (xI 0 1))], [], (2, 57, 0, 0), none)
def xT173 : xTab := ([(7, 17, 0)], [], [], [], [], [], [], [(0, 99, 3, some 17, xM145), (0, 123, 3, some 17, xM163), (0, 133, 3, some 17, xM168), (0, 136, 6, some 17, xM172)], [], [], [])
set_option maxRecDepth 100000 in
set_option maxHeartbeats 4000000 in
theorem xk173 : x_TOK vwCl x_G x_Zs x_Tb x_Nb xM173 xT173 := by
  intro p l e s m args below meth c D U hx hb hml hts hown hK hK0 hU hnm hN
  have X : x_cx p s m args c D U xM173.2.1 xM173.2.2.1 vwCl x_Tb x_Nb xM173.1.cls := ⟨hx, hb, hml, hown, hts, hK, hK0, hU, hN, x_Tb_good, x_Nb_ok⟩
  exact ⟨(x_cons (fl190 hts) x_nilm), x_nilm, x_nilm, x_nilm, x_nilm, x_nilm, x_nilm, (x_cons (x_cokV (ci := 12) X xm145 rfl rfl rfl (x_cons (x_bw67 15 rfl rfl) (x_cons (x_bw68 1 rfl rfl) (x_cons (x_at 31 (by decide +kernel) rfl) (x_cons (x_bw0 9 rfl rfl) x_nilm)))) (x_bw68 2 rfl rfl) (by decide +kernel) ⟨Nat.le_of_ble_eq_true rfl, Nat.le_of_ble_eq_true rfl⟩) (x_cons (x_cokV (ci := 12) X xm163 rfl rfl rfl (x_cons (x_bw70 7 rfl rfl) (x_cons (x_bw70 9 rfl rfl) (x_cons (x_at 37 (by decide +kernel) rfl) (x_cons (x_bw0 9 rfl rfl) x_nilm)))) (x_bw70 10 rfl rfl) (by decide +kernel) ⟨Nat.le_of_ble_eq_true rfl, Nat.le_of_ble_eq_true rfl⟩) (x_cons (x_cokV (ci := 12) X xm168 rfl rfl rfl (x_cons (x_bw71 7 rfl rfl) (x_cons (x_bw71 9 rfl rfl) (x_cons (x_at 39 (by decide +kernel) rfl) (x_cons (x_bw0 9 rfl rfl) x_nilm)))) (x_bw71 10 rfl rfl) (by decide +kernel) ⟨Nat.le_of_ble_eq_true rfl, Nat.le_of_ble_eq_true rfl⟩) (x_cons (x_cokV (ci := 12) X xm172 rfl rfl rfl (x_cons (x_bw72 10 rfl rfl) (x_cons (x_bw72 12 rfl rfl) (x_cons (x_at 42 (by decide +kernel) rfl) (x_cons (x_bw0 9 rfl rfl) x_nilm)))) (x_bw72 13 rfl rfl) (by decide +kernel) ⟨Nat.le_of_ble_eq_true rfl, Nat.le_of_ble_eq_true rfl⟩) x_nilm)))), x_nilm, x_nilm, x_nilm⟩
set_option maxRecDepth 1000000 in
theorem xm173 : x_Met vwCl x_G x_Zs x_Tb x_Nb xM173 := x_main xT173 [(32, ([(0, xR false [17]), (1, xI 0 9), (2, xI 0 9), (3, xF), (4, xF), (5, xI 0 1), (6, xI 0 10)], [], []), (6, true), [], false, 0, []), (106, ([(0, xR false [17]), (1, xI 0 9), (2, xI 0 9), (3, xF), (4, xF), (5, xI 0 1), (6, xI 0 8)], [], [(0, 12, 0, xR false [46])]), (6, true), [], false, 0, [])] [] 2500 (by decide +kernel) (by decide +kernel) xk173 (by decide +kernel)
/-- TwinFiresModel.sight(II)I -/
def xM174 : xM := (⟨"TwinFiresModel", "sight", "(II)I"⟩, prog_14_method_32_code, 3, some .int, [xR false [17], xF, xF], [([xR false [17], xF, xF], some (xF))], [(50, 0)], (3, 83, 0, 0), none)
def xT174 : xTab := ([(7, 17, 0)], [], [], [], [], [], [], [(0, 102, 1, some 17, xM143), (0, 140, 5, some 17, xM173), (0, 151, 2, some 17, xM171)], [], [], [])
set_option maxRecDepth 100000 in
set_option maxHeartbeats 4000000 in
theorem xk174 : x_TOK vwCl x_G x_Zs x_Tb x_Nb xM174 xT174 := by
  intro p l e s m args below meth c D U hx hb hml hts hown hK hK0 hU hnm hN
  have X : x_cx p s m args c D U xM174.2.1 xM174.2.2.1 vwCl x_Tb x_Nb xM174.1.cls := ⟨hx, hb, hml, hown, hts, hK, hK0, hU, hN, x_Tb_good, x_Nb_ok⟩
  exact ⟨(x_cons (fl190 hts) x_nilm), x_nilm, x_nilm, x_nilm, x_nilm, x_nilm, x_nilm, (x_cons (x_cokV (ci := 12) X xm143 rfl rfl rfl (x_cons (x_bw68 3 rfl rfl) (x_cons (x_bw68 5 rfl rfl) (x_cons (x_at 32 (by decide +kernel) rfl) (x_cons (x_bw0 9 rfl rfl) x_nilm)))) (x_bw68 6 rfl rfl) (by decide +kernel) ⟨Nat.le_of_ble_eq_true rfl, Nat.le_of_ble_eq_true rfl⟩) (x_cons (x_cokV (ci := 12) X xm173 rfl rfl rfl (x_cons (x_bw72 6 rfl rfl) (x_cons (x_bw72 8 rfl rfl) (x_cons (x_at 41 (by decide +kernel) rfl) (x_cons (x_bw0 9 rfl rfl) x_nilm)))) (x_bw72 9 rfl rfl) (by decide +kernel) ⟨Nat.le_of_ble_eq_true rfl, Nat.le_of_ble_eq_true rfl⟩) (x_cons (x_cokV (ci := 12) X xm171 rfl rfl rfl (x_cons (x_bw72 2 rfl rfl) (x_cons (x_bw72 4 rfl rfl) (x_cons (x_at 40 (by decide +kernel) rfl) (x_cons (x_bw0 9 rfl rfl) x_nilm)))) (x_bw72 5 rfl rfl) (by decide +kernel) ⟨Nat.le_of_ble_eq_true rfl, Nat.le_of_ble_eq_true rfl⟩) x_nilm))), x_nilm, x_nilm, x_nilm⟩
set_option maxRecDepth 1000000 in
theorem xm174 : x_Met vwCl x_G x_Zs x_Tb x_Nb xM174 := x_main xT174 [] [] 2500 (by decide +kernel) (by decide +kernel) xk174 (by decide +kernel)
/-- TwinFiresModel.clearText()I -/
def xM176 : xM := (⟨"TwinFiresModel", "clearText", "()I"⟩, prog_14_method_35_code, 2, some .int, [xR false [17]], [([xR false [17]], some (xI 0 240))], [(17, 10)], (0, 0, 0, 0), none)
/-- TwinFiresModel.isAt(II)Z -/
def xM178 : xM := (⟨"TwinFiresModel", "isAt", "(II)Z"⟩, prog_14_method_36_code, 3, some .boolean, [xR false [17], xF, xF], [([xR false [17], xF, xF], some (xI 0 0)), ([xR false [17], xF, xF], some (xI 1 1))], [], (1, 25, 0, 0), none)
/-- TwinFiresModel.wordOf(J)I -/
def xM179 : xM := (⟨"TwinFiresModel", "wordOf", "(J)I"⟩, prog_14_method_37_code, 4, some .int, [xFL], [([xFL], some (xI 1 32))], [], (0, 0, 0, 0), none)
/-- TwinFiresModel.numbers(I)I -/
def xM180 : xM := (⟨"TwinFiresModel", "numbers", "(I)I"⟩, prog_14_method_39_code, 1, some .int, [xF], [([xF], some (xI 1 4))], [], (0, 0, 0, 0), none)
