def vM208 : xM := x_exc xM208 xc8
def vT208 : xTab := ([(7, 17, 0)], [], [], [], [], [], [(110, 9)], [(1, 87, 3, none, xM151), (0, 102, 1, some 17, xM143), (0, 105, 1, some 17, xM146)], [], [], [])
set_option maxRecDepth 100000 in
set_option maxHeartbeats 4000000 in
theorem vk208 : x_TOK vwCl x_G x_Zs x_Tb x_Nb vM208 vT208 := by
  intro p l e s m args below meth c D U hx hb hml hts hown hK hK0 hU hnm hN
  have X : x_cx p s m args c D U vM208.2.1 vM208.2.2.1 vwCl x_Tb x_Nb vM208.1.cls := ⟨hx, hb, hml, hown, hts, hK, hK0, hU, hN, x_Tb_good, x_Nb_ok⟩
  exact ⟨(x_cons (fl190 hts) x_nilm), x_nilm, x_nilm, x_nilm, x_nilm, x_nilm, (x_cons ⟨9, rfl, (hts _ (x_at 1172 (by decide +kernel) rfl))⟩ x_nilm), (x_cons (x_cokS X xm151 (x_cons (x_at 1147 (by decide +kernel) rfl) (x_cons (x_at 1148 (by decide +kernel) rfl) (x_cons (x_at 73 (by decide +kernel) rfl) x_nilm))) (x_at 1149 (by decide +kernel) rfl) (by decide +kernel) ⟨Nat.le_of_ble_eq_true rfl, Nat.le_of_ble_eq_true rfl⟩) (x_cons (x_cokV (ci := 12) X xm143 rfl rfl rfl (x_cons (x_at 1155 (by decide +kernel) rfl) (x_cons (x_at 1157 (by decide +kernel) rfl) (x_cons (x_at 32 (by decide +kernel) rfl) (x_cons (x_at 73 (by decide +kernel) rfl) x_nilm)))) (x_at 1158 (by decide +kernel) rfl) (by decide +kernel) ⟨Nat.le_of_ble_eq_true rfl, Nat.le_of_ble_eq_true rfl⟩) (x_cons (x_cokV (ci := 12) X xm146 rfl rfl rfl (x_cons (x_at 1163 (by decide +kernel) rfl) (x_cons (x_at 1165 (by decide +kernel) rfl) (x_cons (x_at 34 (by decide +kernel) rfl) (x_cons (x_at 73 (by decide +kernel) rfl) x_nilm)))) (x_at 1166 (by decide +kernel) rfl) (by decide +kernel) ⟨Nat.le_of_ble_eq_true rfl, Nat.le_of_ble_eq_true rfl⟩) x_nilm))), x_nilm, x_nilm, x_nilm⟩
set_option maxRecDepth 1000000 in
theorem vm208 : x_Met vwCl x_G x_Zs x_Tb x_Nb vM208 := x_main vT208 [] [] 2500 (by decide +kernel) (by decide +kernel) vk208 (by decide +kernel)
def vM209 : xM := x_exc xM209 xc8
def vT209 : xTab := ([(7, 17, 0)], [], [], [], [], [], [], [], [], [], [])
set_option maxRecDepth 100000 in
set_option maxHeartbeats 4000000 in
theorem vk209 : x_TOK vwCl x_G x_Zs x_Tb x_Nb vM209 vT209 := by
  intro p l e s m args below meth c D U hx hb hml hts hown hK hK0 hU hnm hN
  have X : x_cx p s m args c D U vM209.2.1 vM209.2.2.1 vwCl x_Tb x_Nb vM209.1.cls := ⟨hx, hb, hml, hown, hts, hK, hK0, hU, hN, x_Tb_good, x_Nb_ok⟩
  exact ⟨(x_cons (fl190 hts) x_nilm), x_nilm, x_nilm, x_nilm, x_nilm, x_nilm, x_nilm, x_nilm, x_nilm, x_nilm, x_nilm⟩
set_option maxRecDepth 1000000 in
theorem vm209 : x_Met vwCl x_G x_Zs x_Tb x_Nb vM209 := x_main vT209 [] [] 2500 (by decide +kernel) (by decide +kernel) vk209 (by decide +kernel)
def vM210 : xM := x_exc xM210 xc8
def vT210 : xTab := ([], [], [], [], [], [], [], [(0, 116, 3, some 17, vM209)], [], [], [])
set_option maxRecDepth 100000 in
set_option maxHeartbeats 4000000 in
theorem vk210 : x_TOK vwCl x_G x_Zs x_Tb x_Nb vM210 vT210 := by
  intro p l e s m args below meth c D U hx hb hml hts hown hK hK0 hU hnm hN
  have X : x_cx p s m args c D U vM210.2.1 vM210.2.2.1 vwCl x_Tb x_Nb vM210.1.cls := ⟨hx, hb, hml, hown, hts, hK, hK0, hU, hN, x_Tb_good, x_Nb_ok⟩
  exact ⟨x_nilm, x_nilm, x_nilm, x_nilm, x_nilm, x_nilm, x_nilm, (x_cons (x_cokV (ci := 12) X vm209 rfl rfl rfl (x_cons (x_at 1179 (by decide +kernel) rfl) (x_cons (x_at 1181 (by decide +kernel) rfl) (x_cons (x_at 35 (by decide +kernel) rfl) (x_cons (x_at 73 (by decide +kernel) rfl) x_nilm)))) (x_at 1182 (by decide +kernel) rfl) (by decide +kernel) ⟨Nat.le_of_ble_eq_true rfl, Nat.le_of_ble_eq_true rfl⟩) x_nilm), x_nilm, x_nilm, x_nilm⟩
set_option maxRecDepth 1000000 in
theorem vm210 : x_Met vwCl x_G x_Zs x_Tb x_Nb vM210 := x_main vT210 [] [] 2500 (by decide +kernel) (by decide +kernel) vk210 (by decide +kernel)
